theorem dX4_init_0 : decode cX4_init 0 = .ok (.aload_n 0, 1) := by decide +kernel
theorem dX4_init_1 : decode cX4_init 1 = .ok (.invokespecial 3, 3) := by decide +kernel
theorem dX4_init_4 : decode cX4_init 4 = .ok (.aload_n 0, 1) := by decide +kernel
theorem dX4_init_5 : decode cX4_init 5 = .ok (.new 9, 3) := by decide +kernel
theorem dX4_init_8 : decode cX4_init 8 = .ok (.dup, 1) := by decide +kernel
theorem dX4_init_9 : decode cX4_init 9 = .ok (.aload_n 1, 1) := by decide +kernel
theorem dX4_init_10 : decode cX4_init 10 = .ok (.invokespecial 11, 3) := by decide +kernel
theorem dX4_init_13 : decode cX4_init 13 = .ok (.putfield 14, 3) := by decide +kernel
theorem dX4_init_16 : decode cX4_init 16 = .ok (.aload_n 0, 1) := by decide +kernel
theorem dX4_init_17 : decode cX4_init 17 = .ok (.new 20, 3) := by decide +kernel
theorem dX4_init_20 : decode cX4_init 20 = .ok (.dup, 1) := by decide +kernel
theorem dX4_init_21 : decode cX4_init 21 = .ok (.aload_n 0, 1) := by decide +kernel
theorem dX4_init_22 : decode cX4_init 22 = .ok (.getfield 14, 3) := by decide +kernel
theorem dX4_init_25 : decode cX4_init 25 = .ok (.aload_n 2, 1) := by decide +kernel
theorem dX4_init_26 : decode cX4_init 26 = .ok (.getfield 22, 3) := by decide +kernel
theorem dX4_init_29 : decode cX4_init 29 = .ok (.invokespecial 28, 3) := by decide +kernel
theorem dX4_init_32 : decode cX4_init 32 = .ok (.putfield 31, 3) := by decide +kernel
theorem dX4_init_35 : decode cX4_init 35 = .ok (.aload_n 0, 1) := by decide +kernel
theorem dX4_init_36 : decode cX4_init 36 = .ok (.aload_n 2, 1) := by decide +kernel
theorem dX4_init_37 : decode cX4_init 37 = .ok (.putfield 35, 3) := by decide +kernel
theorem dX4_init_40 : decode cX4_init 40 = .ok (.return_, 1) := by decide +kernel
theorem dX4_read_0 : decode cX4_read 0 = .ok (.aload_n 0, 1) := by decide +kernel
theorem dX4_read_1 : decode cX4_read 1 = .ok (.aload_n 1, 1) := by decide +kernel
theorem dX4_read_2 : decode cX4_read 2 = .ok (.putfield 35, 3) := by decide +kernel
theorem dX4_read_5 : decode cX4_read 5 = .ok (.aload_n 0, 1) := by decide +kernel
theorem dX4_read_6 : decode cX4_read 6 = .ok (.getfield 35, 3) := by decide +kernel
theorem dX4_read_9 : decode cX4_read 9 = .ok (.invokevirtual 39, 3) := by decide +kernel
theorem dX4_read_12 : decode cX4_read 12 = .ok (.aload_n 0, 1) := by decide +kernel
theorem dX4_read_13 : decode cX4_read 13 = .ok (.getfield 14, 3) := by decide +kernel
theorem dX4_read_16 : decode cX4_read 16 = .ok (.invokevirtual 42, 3) := by decide +kernel
theorem dX4_read_19 : decode cX4_read 19 = .ok (.iconst 0, 1) := by decide +kernel
theorem dX4_read_20 : decode cX4_read 20 = .ok (.istore_n 2, 1) := by decide +kernel
theorem dX4_read_21 : decode cX4_read 21 = .ok (.iload_n 2, 1) := by decide +kernel
theorem dX4_read_22 : decode cX4_read 22 = .ok (.bipush 80, 2) := by decide +kernel
theorem dX4_read_24 : decode cX4_read 24 = .ok (.if_icmp .ge 56, 3) := by decide +kernel
theorem dX4_read_27 : decode cX4_read 27 = .ok (.aload_n 0, 1) := by decide +kernel
theorem dX4_read_28 : decode cX4_read 28 = .ok (.getfield 14, 3) := by decide +kernel
theorem dX4_read_31 : decode cX4_read 31 = .ok (.getfield 45, 3) := by decide +kernel
theorem dX4_read_34 : decode cX4_read 34 = .ok (.sipush 259, 3) := by decide +kernel
theorem dX4_read_37 : decode cX4_read 37 = .ok (.if_icmp .eq 43, 3) := by decide +kernel
theorem dX4_read_40 : decode cX4_read 40 = .ok (.aload_n 0, 1) := by decide +kernel
theorem dX4_read_41 : decode cX4_read 41 = .ok (.invokevirtual 49, 3) := by decide +kernel
theorem dX4_read_44 : decode cX4_read 44 = .ok (.ifCond .eq 15, 3) := by decide +kernel
theorem dX4_read_47 : decode cX4_read 47 = .ok (.aload_n 0, 1) := by decide +kernel
theorem dX4_read_48 : decode cX4_read 48 = .ok (.getfield 14, 3) := by decide +kernel
theorem dX4_read_51 : decode cX4_read 51 = .ok (.bipush 59, 2) := by decide +kernel
theorem dX4_read_53 : decode cX4_read 53 = .ok (.invokevirtual 53, 3) := by decide +kernel
theorem dX4_read_56 : decode cX4_read 56 = .ok (.ifCond .ne 5, 3) := by decide +kernel
theorem dX4_read_59 : decode cX4_read 59 = .ok (.iconst 0, 1) := by decide +kernel
theorem dX4_read_60 : decode cX4_read 60 = .ok (.ireturn, 1) := by decide +kernel
theorem dX4_read_61 : decode cX4_read 61 = .ok (.aload_n 0, 1) := by decide +kernel
theorem dX4_read_62 : decode cX4_read 62 = .ok (.getfield 35, 3) := by decide +kernel
theorem dX4_read_65 : decode cX4_read 65 = .ok (.dup, 1) := by decide +kernel
theorem dX4_read_66 : decode cX4_read 66 = .ok (.getfield 57, 3) := by decide +kernel
theorem dX4_read_69 : decode cX4_read 69 = .ok (.iconst 1, 1) := by decide +kernel
theorem dX4_read_70 : decode cX4_read 70 = .ok (.iadd, 1) := by decide +kernel
theorem dX4_read_71 : decode cX4_read 71 = .ok (.putfield 57, 3) := by decide +kernel
theorem dX4_read_74 : decode cX4_read 74 = .ok (.iinc 2 1, 3) := by decide +kernel
theorem dX4_read_77 : decode cX4_read 77 = .ok (.goto (-56), 3) := by decide +kernel
theorem dX4_read_80 : decode cX4_read 80 = .ok (.aload_n 0, 1) := by decide +kernel
theorem dX4_read_81 : decode cX4_read 81 = .ok (.getfield 14, 3) := by decide +kernel
theorem dX4_read_84 : decode cX4_read 84 = .ok (.getfield 45, 3) := by decide +kernel
theorem dX4_read_87 : decode cX4_read 87 = .ok (.sipush 259, 3) := by decide +kernel
theorem dX4_read_90 : decode cX4_read 90 = .ok (.if_icmp .eq 22, 3) := by decide +kernel
theorem dX4_read_93 : decode cX4_read 93 = .ok (.aload_n 0, 1) := by decide +kernel
theorem dX4_read_94 : decode cX4_read 94 = .ok (.getfield 14, 3) := by decide +kernel
theorem dX4_read_97 : decode cX4_read 97 = .ok (.bipush 6, 2) := by decide +kernel
theorem dX4_read_99 : decode cX4_read 99 = .ok (.aload_n 0, 1) := by decide +kernel
theorem dX4_read_100 : decode cX4_read 100 = .ok (.getfield 14, 3) := by decide +kernel
theorem dX4_read_103 : decode cX4_read 103 = .ok (.getfield 60, 3) := by decide +kernel
theorem dX4_read_106 : decode cX4_read 106 = .ok (.invokevirtual 63, 3) := by decide +kernel
theorem dX4_read_109 : decode cX4_read 109 = .ok (.ifCond .eq 7, 3) := by decide +kernel
theorem dX4_read_112 : decode cX4_read 112 = .ok (.iconst 1, 1) := by decide +kernel
theorem dX4_read_113 : decode cX4_read 113 = .ok (.goto 4, 3) := by decide +kernel
theorem dX4_read_116 : decode cX4_read 116 = .ok (.iconst 0, 1) := by decide +kernel
theorem dX4_read_117 : decode cX4_read 117 = .ok (.ireturn, 1) := by decide +kernel
theorem dX4_readStatement_0 : decode cX4_readStatement 0 = .ok (.aload_n 0, 1) := by decide +kernel
theorem dX4_readStatement_1 : decode cX4_readStatement 1 = .ok (.getfield 14, 3) := by decide +kernel
theorem dX4_readStatement_4 : decode cX4_readStatement 4 = .ok (.getfield 45, 3) := by decide +kernel
theorem dX4_readStatement_7 : decode cX4_readStatement 7 = .ok (.tableswitch 358 260 274 #[73, 358, 358, 110, 146, 358, 358, 183, 358, 204, 358, 358, 241, 289, 337], 73) := by decide +kernel
theorem dX4_readStatement_80 : decode cX4_readStatement 80 = .ok (.aload_n 0, 1) := by decide +kernel
theorem dX4_readStatement_81 : decode cX4_readStatement 81 = .ok (.aload_n 0, 1) := by decide +kernel
theorem dX4_readStatement_82 : decode cX4_readStatement 82 = .ok (.getfield 35, 3) := by decide +kernel
theorem dX4_readStatement_85 : decode cX4_readStatement 85 = .ok (.getfield 67, 3) := by decide +kernel
theorem dX4_readStatement_88 : decode cX4_readStatement 88 = .ok (.bipush 6, 2) := by decide +kernel
theorem dX4_readStatement_90 : decode cX4_readStatement 90 = .ok (.if_icmp .ge 7, 3) := by decide +kernel
theorem dX4_readStatement_93 : decode cX4_readStatement 93 = .ok (.iconst 1, 1) := by decide +kernel
theorem dX4_readStatement_94 : decode cX4_readStatement 94 = .ok (.goto 4, 3) := by decide +kernel
theorem dX4_readStatement_97 : decode cX4_readStatement 97 = .ok (.iconst 0, 1) := by decide +kernel
theorem dX4_readStatement_98 : decode cX4_readStatement 98 = .ok (.invokevirtual 70, 3) := by decide +kernel
theorem dX4_readStatement_101 : decode cX4_readStatement 101 = .ok (.ifCond .eq 14, 3) := by decide +kernel
theorem dX4_readStatement_104 : decode cX4_readStatement 104 = .ok (.aload_n 0, 1) := by decide +kernel
theorem dX4_readStatement_105 : decode cX4_readStatement 105 = .ok (.invokevirtual 74, 3) := by decide +kernel
theorem dX4_readStatement_108 : decode cX4_readStatement 108 = .ok (.ifCond .eq 7, 3) := by decide +kernel
theorem dX4_readStatement_111 : decode cX4_readStatement 111 = .ok (.iconst 1, 1) := by decide +kernel
theorem dX4_readStatement_112 : decode cX4_readStatement 112 = .ok (.goto 4, 3) := by decide +kernel
theorem dX4_readStatement_115 : decode cX4_readStatement 115 = .ok (.iconst 0, 1) := by decide +kernel
theorem dX4_readStatement_116 : decode cX4_readStatement 116 = .ok (.ireturn, 1) := by decide +kernel
theorem dX4_readStatement_117 : decode cX4_readStatement 117 = .ok (.aload_n 0, 1) := by decide +kernel
theorem dX4_readStatement_118 : decode cX4_readStatement 118 = .ok (.aload_n 0, 1) := by decide +kernel
theorem dX4_readStatement_119 : decode cX4_readStatement 119 = .ok (.getfield 35, 3) := by decide +kernel
theorem dX4_readStatement_122 : decode cX4_readStatement 122 = .ok (.getfield 77, 3) := by decide +kernel
theorem dX4_readStatement_125 : decode cX4_readStatement 125 = .ok (.iconst 5, 1) := by decide +kernel
theorem dX4_readStatement_126 : decode cX4_readStatement 126 = .ok (.if_icmp .ge 7, 3) := by decide +kernel
theorem dX4_readStatement_129 : decode cX4_readStatement 129 = .ok (.iconst 1, 1) := by decide +kernel
theorem dX4_readStatement_130 : decode cX4_readStatement 130 = .ok (.goto 4, 3) := by decide +kernel
theorem dX4_readStatement_133 : decode cX4_readStatement 133 = .ok (.iconst 0, 1) := by decide +kernel
theorem dX4_readStatement_134 : decode cX4_readStatement 134 = .ok (.invokevirtual 70, 3) := by decide +kernel
theorem dX4_readStatement_137 : decode cX4_readStatement 137 = .ok (.ifCond .eq 14, 3) := by decide +kernel
theorem dX4_readStatement_140 : decode cX4_readStatement 140 = .ok (.aload_n 0, 1) := by decide +kernel
theorem dX4_readStatement_141 : decode cX4_readStatement 141 = .ok (.invokevirtual 80, 3) := by decide +kernel
theorem dX4_readStatement_144 : decode cX4_readStatement 144 = .ok (.ifCond .eq 7, 3) := by decide +kernel
theorem dX4_readStatement_147 : decode cX4_readStatement 147 = .ok (.iconst 1, 1) := by decide +kernel
theorem dX4_readStatement_148 : decode cX4_readStatement 148 = .ok (.goto 4, 3) := by decide +kernel
theorem dX4_readStatement_151 : decode cX4_readStatement 151 = .ok (.iconst 0, 1) := by decide +kernel
theorem dX4_readStatement_152 : decode cX4_readStatement 152 = .ok (.ireturn, 1) := by decide +kernel
theorem dX4_readStatement_153 : decode cX4_readStatement 153 = .ok (.aload_n 0, 1) := by decide +kernel
theorem dX4_readStatement_154 : decode cX4_readStatement 154 = .ok (.aload_n 0, 1) := by decide +kernel
theorem dX4_readStatement_155 : decode cX4_readStatement 155 = .ok (.getfield 35, 3) := by decide +kernel
theorem dX4_readStatement_158 : decode cX4_readStatement 158 = .ok (.getfield 83, 3) := by decide +kernel
theorem dX4_readStatement_161 : decode cX4_readStatement 161 = .ok (.bipush 10, 2) := by decide +kernel
theorem dX4_readStatement_163 : decode cX4_readStatement 163 = .ok (.if_icmp .ge 7, 3) := by decide +kernel
theorem dX4_readStatement_166 : decode cX4_readStatement 166 = .ok (.iconst 1, 1) := by decide +kernel
theorem dX4_readStatement_167 : decode cX4_readStatement 167 = .ok (.goto 4, 3) := by decide +kernel
theorem dX4_readStatement_170 : decode cX4_readStatement 170 = .ok (.iconst 0, 1) := by decide +kernel
theorem dX4_readStatement_171 : decode cX4_readStatement 171 = .ok (.invokevirtual 70, 3) := by decide +kernel
theorem dX4_readStatement_174 : decode cX4_readStatement 174 = .ok (.ifCond .eq 14, 3) := by decide +kernel
theorem dX4_readStatement_177 : decode cX4_readStatement 177 = .ok (.aload_n 0, 1) := by decide +kernel
theorem dX4_readStatement_178 : decode cX4_readStatement 178 = .ok (.invokevirtual 86, 3) := by decide +kernel
theorem dX4_readStatement_181 : decode cX4_readStatement 181 = .ok (.ifCond .eq 7, 3) := by decide +kernel
theorem dX4_readStatement_184 : decode cX4_readStatement 184 = .ok (.iconst 1, 1) := by decide +kernel
theorem dX4_readStatement_185 : decode cX4_readStatement 185 = .ok (.goto 4, 3) := by decide +kernel
theorem dX4_readStatement_188 : decode cX4_readStatement 188 = .ok (.iconst 0, 1) := by decide +kernel
theorem dX4_readStatement_189 : decode cX4_readStatement 189 = .ok (.ireturn, 1) := by decide +kernel
theorem dX4_readStatement_190 : decode cX4_readStatement 190 = .ok (.aload_n 0, 1) := by decide +kernel
theorem dX4_readStatement_191 : decode cX4_readStatement 191 = .ok (.iconst 1, 1) := by decide +kernel
theorem dX4_readStatement_192 : decode cX4_readStatement 192 = .ok (.invokevirtual 70, 3) := by decide +kernel
theorem dX4_readStatement_195 : decode cX4_readStatement 195 = .ok (.ifCond .eq 14, 3) := by decide +kernel
theorem dX4_readStatement_198 : decode cX4_readStatement 198 = .ok (.aload_n 0, 1) := by decide +kernel
theorem dX4_readStatement_199 : decode cX4_readStatement 199 = .ok (.invokevirtual 89, 3) := by decide +kernel
theorem dX4_readStatement_202 : decode cX4_readStatement 202 = .ok (.ifCond .eq 7, 3) := by decide +kernel
theorem dX4_readStatement_205 : decode cX4_readStatement 205 = .ok (.iconst 1, 1) := by decide +kernel
theorem dX4_readStatement_206 : decode cX4_readStatement 206 = .ok (.goto 4, 3) := by decide +kernel
theorem dX4_readStatement_209 : decode cX4_readStatement 209 = .ok (.iconst 0, 1) := by decide +kernel
theorem dX4_readStatement_210 : decode cX4_readStatement 210 = .ok (.ireturn, 1) := by decide +kernel
theorem dX4_readStatement_211 : decode cX4_readStatement 211 = .ok (.aload_n 0, 1) := by decide +kernel
theorem dX4_readStatement_212 : decode cX4_readStatement 212 = .ok (.aload_n 0, 1) := by decide +kernel
theorem dX4_readStatement_213 : decode cX4_readStatement 213 = .ok (.getfield 35, 3) := by decide +kernel
theorem dX4_readStatement_216 : decode cX4_readStatement 216 = .ok (.getfield 92, 3) := by decide +kernel
theorem dX4_readStatement_219 : decode cX4_readStatement 219 = .ok (.bipush 6, 2) := by decide +kernel
theorem dX4_readStatement_221 : decode cX4_readStatement 221 = .ok (.if_icmp .ge 7, 3) := by decide +kernel
theorem dX4_readStatement_224 : decode cX4_readStatement 224 = .ok (.iconst 1, 1) := by decide +kernel
theorem dX4_readStatement_225 : decode cX4_readStatement 225 = .ok (.goto 4, 3) := by decide +kernel
theorem dX4_readStatement_228 : decode cX4_readStatement 228 = .ok (.iconst 0, 1) := by decide +kernel
theorem dX4_readStatement_229 : decode cX4_readStatement 229 = .ok (.invokevirtual 70, 3) := by decide +kernel
theorem dX4_readStatement_232 : decode cX4_readStatement 232 = .ok (.ifCond .eq 14, 3) := by decide +kernel
theorem dX4_readStatement_235 : decode cX4_readStatement 235 = .ok (.aload_n 0, 1) := by decide +kernel
theorem dX4_readStatement_236 : decode cX4_readStatement 236 = .ok (.invokevirtual 95, 3) := by decide +kernel
theorem dX4_readStatement_239 : decode cX4_readStatement 239 = .ok (.ifCond .eq 7, 3) := by decide +kernel
theorem dX4_readStatement_242 : decode cX4_readStatement 242 = .ok (.iconst 1, 1) := by decide +kernel
theorem dX4_readStatement_243 : decode cX4_readStatement 243 = .ok (.goto 4, 3) := by decide +kernel
theorem dX4_readStatement_246 : decode cX4_readStatement 246 = .ok (.iconst 0, 1) := by decide +kernel
theorem dX4_readStatement_247 : decode cX4_readStatement 247 = .ok (.ireturn, 1) := by decide +kernel
theorem dX4_readStatement_248 : decode cX4_readStatement 248 = .ok (.aload_n 0, 1) := by decide +kernel
theorem dX4_readStatement_249 : decode cX4_readStatement 249 = .ok (.aload_n 0, 1) := by decide +kernel
theorem dX4_readStatement_250 : decode cX4_readStatement 250 = .ok (.getfield 35, 3) := by decide +kernel
theorem dX4_readStatement_253 : decode cX4_readStatement 253 = .ok (.getfield 22, 3) := by decide +kernel
theorem dX4_readStatement_256 : decode cX4_readStatement 256 = .ok (.invokevirtual 98, 3) := by decide +kernel
theorem dX4_readStatement_259 : decode cX4_readStatement 259 = .ok (.ifCond .ne 7, 3) := by decide +kernel
theorem dX4_readStatement_262 : decode cX4_readStatement 262 = .ok (.iconst 1, 1) := by decide +kernel
theorem dX4_readStatement_263 : decode cX4_readStatement 263 = .ok (.goto 4, 3) := by decide +kernel
theorem dX4_readStatement_266 : decode cX4_readStatement 266 = .ok (.iconst 0, 1) := by decide +kernel
theorem dX4_readStatement_267 : decode cX4_readStatement 267 = .ok (.invokevirtual 70, 3) := by decide +kernel
theorem dX4_readStatement_270 : decode cX4_readStatement 270 = .ok (.ifCond .eq 24, 3) := by decide +kernel
theorem dX4_readStatement_273 : decode cX4_readStatement 273 = .ok (.aload_n 0, 1) := by decide +kernel
theorem dX4_readStatement_274 : decode cX4_readStatement 274 = .ok (.getfield 31, 3) := by decide +kernel
theorem dX4_readStatement_277 : decode cX4_readStatement 277 = .ok (.aload_n 0, 1) := by decide +kernel
theorem dX4_readStatement_278 : decode cX4_readStatement 278 = .ok (.getfield 35, 3) := by decide +kernel
theorem dX4_readStatement_281 : decode cX4_readStatement 281 = .ok (.getfield 22, 3) := by decide +kernel
theorem dX4_readStatement_284 : decode cX4_readStatement 284 = .ok (.invokevirtual 103, 3) := by decide +kernel
theorem dX4_readStatement_287 : decode cX4_readStatement 287 = .ok (.ifCond .eq 7, 3) := by decide +kernel
theorem dX4_readStatement_290 : decode cX4_readStatement 290 = .ok (.iconst 1, 1) := by decide +kernel
theorem dX4_readStatement_291 : decode cX4_readStatement 291 = .ok (.goto 4, 3) := by decide +kernel
theorem dX4_readStatement_294 : decode cX4_readStatement 294 = .ok (.iconst 0, 1) := by decide +kernel
theorem dX4_readStatement_295 : decode cX4_readStatement 295 = .ok (.ireturn, 1) := by decide +kernel
theorem dX4_readStatement_296 : decode cX4_readStatement 296 = .ok (.aload_n 0, 1) := by decide +kernel
theorem dX4_readStatement_297 : decode cX4_readStatement 297 = .ok (.aload_n 0, 1) := by decide +kernel
theorem dX4_readStatement_298 : decode cX4_readStatement 298 = .ok (.getfield 35, 3) := by decide +kernel
theorem dX4_readStatement_301 : decode cX4_readStatement 301 = .ok (.getfield 107, 3) := by decide +kernel
theorem dX4_readStatement_304 : decode cX4_readStatement 304 = .ok (.invokevirtual 98, 3) := by decide +kernel
theorem dX4_readStatement_307 : decode cX4_readStatement 307 = .ok (.ifCond .ne 7, 3) := by decide +kernel
theorem dX4_readStatement_310 : decode cX4_readStatement 310 = .ok (.iconst 1, 1) := by decide +kernel
theorem dX4_readStatement_311 : decode cX4_readStatement 311 = .ok (.goto 4, 3) := by decide +kernel
theorem dX4_readStatement_314 : decode cX4_readStatement 314 = .ok (.iconst 0, 1) := by decide +kernel
theorem dX4_readStatement_315 : decode cX4_readStatement 315 = .ok (.invokevirtual 70, 3) := by decide +kernel
theorem dX4_readStatement_318 : decode cX4_readStatement 318 = .ok (.ifCond .eq 24, 3) := by decide +kernel
theorem dX4_readStatement_321 : decode cX4_readStatement 321 = .ok (.aload_n 0, 1) := by decide +kernel
theorem dX4_readStatement_322 : decode cX4_readStatement 322 = .ok (.getfield 31, 3) := by decide +kernel
theorem dX4_readStatement_325 : decode cX4_readStatement 325 = .ok (.aload_n 0, 1) := by decide +kernel
theorem dX4_readStatement_326 : decode cX4_readStatement 326 = .ok (.getfield 35, 3) := by decide +kernel
theorem dX4_readStatement_329 : decode cX4_readStatement 329 = .ok (.getfield 107, 3) := by decide +kernel
theorem dX4_readStatement_332 : decode cX4_readStatement 332 = .ok (.invokevirtual 110, 3) := by decide +kernel
theorem dX4_readStatement_335 : decode cX4_readStatement 335 = .ok (.ifCond .eq 7, 3) := by decide +kernel
theorem dX4_readStatement_338 : decode cX4_readStatement 338 = .ok (.iconst 1, 1) := by decide +kernel
theorem dX4_readStatement_339 : decode cX4_readStatement 339 = .ok (.goto 4, 3) := by decide +kernel
theorem dX4_readStatement_342 : decode cX4_readStatement 342 = .ok (.iconst 0, 1) := by decide +kernel
theorem dX4_readStatement_343 : decode cX4_readStatement 343 = .ok (.ireturn, 1) := by decide +kernel
theorem dX4_readStatement_344 : decode cX4_readStatement 344 = .ok (.aload_n 0, 1) := by decide +kernel
theorem dX4_readStatement_345 : decode cX4_readStatement 345 = .ok (.iconst 1, 1) := by decide +kernel
theorem dX4_readStatement_346 : decode cX4_readStatement 346 = .ok (.invokevirtual 70, 3) := by decide +kernel
theorem dX4_readStatement_349 : decode cX4_readStatement 349 = .ok (.ifCond .eq 14, 3) := by decide +kernel
theorem dX4_readStatement_352 : decode cX4_readStatement 352 = .ok (.aload_n 0, 1) := by decide +kernel
theorem dX4_readStatement_353 : decode cX4_readStatement 353 = .ok (.invokevirtual 113, 3) := by decide +kernel
theorem dX4_readStatement_356 : decode cX4_readStatement 356 = .ok (.ifCond .eq 7, 3) := by decide +kernel
theorem dX4_readStatement_359 : decode cX4_readStatement 359 = .ok (.iconst 1, 1) := by decide +kernel
theorem dX4_readStatement_360 : decode cX4_readStatement 360 = .ok (.goto 4, 3) := by decide +kernel
theorem dX4_readStatement_363 : decode cX4_readStatement 363 = .ok (.iconst 0, 1) := by decide +kernel
theorem dX4_readStatement_364 : decode cX4_readStatement 364 = .ok (.ireturn, 1) := by decide +kernel
theorem dX4_readStatement_365 : decode cX4_readStatement 365 = .ok (.aload_n 0, 1) := by decide +kernel
theorem dX4_readStatement_366 : decode cX4_readStatement 366 = .ok (.getfield 14, 3) := by decide +kernel
theorem dX4_readStatement_369 : decode cX4_readStatement 369 = .ok (.invokevirtual 116, 3) := by decide +kernel
theorem dX4_readStatement_372 : decode cX4_readStatement 372 = .ok (.ireturn, 1) := by decide +kernel
theorem dX4_skipFirst_0 : decode cX4_skipFirst 0 = .ok (.iload_n 1, 1) := by decide +kernel
theorem dX4_skipFirst_1 : decode cX4_skipFirst 1 = .ok (.ifCond .ne 20, 3) := by decide +kernel
theorem dX4_skipFirst_4 : decode cX4_skipFirst 4 = .ok (.aload_n 0, 1) := by decide +kernel
theorem dX4_skipFirst_5 : decode cX4_skipFirst 5 = .ok (.getfield 14, 3) := by decide +kernel
theorem dX4_skipFirst_8 : decode cX4_skipFirst 8 = .ok (.bipush 6, 2) := by decide +kernel
theorem dX4_skipFirst_10 : decode cX4_skipFirst 10 = .ok (.aload_n 0, 1) := by decide +kernel
theorem dX4_skipFirst_11 : decode cX4_skipFirst 11 = .ok (.getfield 14, 3) := by decide +kernel
theorem dX4_skipFirst_14 : decode cX4_skipFirst 14 = .ok (.getfield 60, 3) := by decide +kernel
theorem dX4_skipFirst_17 : decode cX4_skipFirst 17 = .ok (.invokevirtual 63, 3) := by decide +kernel
theorem dX4_skipFirst_20 : decode cX4_skipFirst 20 = .ok (.ireturn, 1) := by decide +kernel
theorem dX4_skipFirst_21 : decode cX4_skipFirst 21 = .ok (.aload_n 0, 1) := by decide +kernel
theorem dX4_skipFirst_22 : decode cX4_skipFirst 22 = .ok (.getfield 14, 3) := by decide +kernel
theorem dX4_skipFirst_25 : decode cX4_skipFirst 25 = .ok (.invokevirtual 119, 3) := by decide +kernel
theorem dX4_skipFirst_28 : decode cX4_skipFirst 28 = .ok (.iconst 1, 1) := by decide +kernel
theorem dX4_skipFirst_29 : decode cX4_skipFirst 29 = .ok (.ireturn, 1) := by decide +kernel
theorem dX4_readThing_0 : decode cX4_readThing 0 = .ok (.aload_n 0, 1) := by decide +kernel
theorem dX4_readThing_1 : decode cX4_readThing 1 = .ok (.invokevirtual 122, 3) := by decide +kernel
theorem dX4_readThing_4 : decode cX4_readThing 4 = .ok (.istore_n 1, 1) := by decide +kernel
theorem dX4_readThing_5 : decode cX4_readThing 5 = .ok (.iload_n 1, 1) := by decide +kernel
theorem dX4_readThing_6 : decode cX4_readThing 6 = .ok (.iconst (-1), 1) := by decide +kernel
theorem dX4_readThing_7 : decode cX4_readThing 7 = .ok (.if_icmp .eq 16, 3) := by decide +kernel
theorem dX4_readThing_10 : decode cX4_readThing 10 = .ok (.aload_n 0, 1) := by decide +kernel
theorem dX4_readThing_11 : decode cX4_readThing 11 = .ok (.getfield 14, 3) := by decide +kernel
theorem dX4_readThing_14 : decode cX4_readThing 14 = .ok (.sipush 261, 3) := by decide +kernel
theorem dX4_readThing_17 : decode cX4_readThing 17 = .ok (.invokevirtual 53, 3) := by decide +kernel
theorem dX4_readThing_20 : decode cX4_readThing 20 = .ok (.ifCond .ne 5, 3) := by decide +kernel
theorem dX4_readThing_23 : decode cX4_readThing 23 = .ok (.iconst 0, 1) := by decide +kernel
theorem dX4_readThing_24 : decode cX4_readThing 24 = .ok (.ireturn, 1) := by decide +kernel
theorem dX4_readThing_25 : decode cX4_readThing 25 = .ok (.aload_n 0, 1) := by decide +kernel
theorem dX4_readThing_26 : decode cX4_readThing 26 = .ok (.iconst 0, 1) := by decide +kernel
theorem dX4_readThing_27 : decode cX4_readThing 27 = .ok (.bipush 99, 2) := by decide +kernel
theorem dX4_readThing_29 : decode cX4_readThing 29 = .ok (.invokevirtual 126, 3) := by decide +kernel
theorem dX4_readThing_32 : decode cX4_readThing 32 = .ok (.istore_n 2, 1) := by decide +kernel
theorem dX4_readThing_33 : decode cX4_readThing 33 = .ok (.iload_n 2, 1) := by decide +kernel
theorem dX4_readThing_34 : decode cX4_readThing 34 = .ok (.iconst (-1), 1) := by decide +kernel
theorem dX4_readThing_35 : decode cX4_readThing 35 = .ok (.if_icmp .eq 16, 3) := by decide +kernel
theorem dX4_readThing_38 : decode cX4_readThing 38 = .ok (.aload_n 0, 1) := by decide +kernel
theorem dX4_readThing_39 : decode cX4_readThing 39 = .ok (.getfield 14, 3) := by decide +kernel
theorem dX4_readThing_42 : decode cX4_readThing 42 = .ok (.sipush 262, 3) := by decide +kernel
theorem dX4_readThing_45 : decode cX4_readThing 45 = .ok (.invokevirtual 53, 3) := by decide +kernel
theorem dX4_readThing_48 : decode cX4_readThing 48 = .ok (.ifCond .ne 5, 3) := by decide +kernel
theorem dX4_readThing_51 : decode cX4_readThing 51 = .ok (.iconst 0, 1) := by decide +kernel
theorem dX4_readThing_52 : decode cX4_readThing 52 = .ok (.ireturn, 1) := by decide +kernel
theorem dX4_readThing_53 : decode cX4_readThing 53 = .ok (.aload_n 0, 1) := by decide +kernel
theorem dX4_readThing_54 : decode cX4_readThing 54 = .ok (.iconst 1, 1) := by decide +kernel
theorem dX4_readThing_55 : decode cX4_readThing 55 = .ok (.bipush 99, 2) := by decide +kernel
theorem dX4_readThing_57 : decode cX4_readThing 57 = .ok (.invokevirtual 126, 3) := by decide +kernel
theorem dX4_readThing_60 : decode cX4_readThing 60 = .ok (.istore_n 3, 1) := by decide +kernel
theorem dX4_readThing_61 : decode cX4_readThing 61 = .ok (.iload_n 3, 1) := by decide +kernel
theorem dX4_readThing_62 : decode cX4_readThing 62 = .ok (.iconst (-1), 1) := by decide +kernel
theorem dX4_readThing_63 : decode cX4_readThing 63 = .ok (.if_icmp .ne 5, 3) := by decide +kernel
theorem dX4_readThing_66 : decode cX4_readThing 66 = .ok (.iconst 0, 1) := by decide +kernel
theorem dX4_readThing_67 : decode cX4_readThing 67 = .ok (.ireturn, 1) := by decide +kernel
theorem dX4_readThing_68 : decode cX4_readThing 68 = .ok (.aload_n 0, 1) := by decide +kernel
theorem dX4_readThing_69 : decode cX4_readThing 69 = .ok (.getfield 35, 3) := by decide +kernel
theorem dX4_readThing_72 : decode cX4_readThing 72 = .ok (.iload_n 1, 1) := by decide +kernel
theorem dX4_readThing_73 : decode cX4_readThing 73 = .ok (.iload_n 2, 1) := by decide +kernel
theorem dX4_readThing_74 : decode cX4_readThing 74 = .ok (.iload_n 3, 1) := by decide +kernel
theorem dX4_readThing_75 : decode cX4_readThing 75 = .ok (.invokevirtual 130, 3) := by decide +kernel
theorem dX4_readThing_78 : decode cX4_readThing 78 = .ok (.iconst 1, 1) := by decide +kernel
theorem dX4_readThing_79 : decode cX4_readThing 79 = .ok (.ireturn, 1) := by decide +kernel
theorem dX4_readCorner_0 : decode cX4_readCorner 0 = .ok (.aload_n 0, 1) := by decide +kernel
theorem dX4_readCorner_1 : decode cX4_readCorner 1 = .ok (.invokevirtual 122, 3) := by decide +kernel
theorem dX4_readCorner_4 : decode cX4_readCorner 4 = .ok (.istore_n 1, 1) := by decide +kernel
theorem dX4_readCorner_5 : decode cX4_readCorner 5 = .ok (.iload_n 1, 1) := by decide +kernel
theorem dX4_readCorner_6 : decode cX4_readCorner 6 = .ok (.iconst (-1), 1) := by decide +kernel
theorem dX4_readCorner_7 : decode cX4_readCorner 7 = .ok (.if_icmp .ne 5, 3) := by decide +kernel
theorem dX4_readCorner_10 : decode cX4_readCorner 10 = .ok (.iconst 0, 1) := by decide +kernel
theorem dX4_readCorner_11 : decode cX4_readCorner 11 = .ok (.ireturn, 1) := by decide +kernel
theorem dX4_readCorner_12 : decode cX4_readCorner 12 = .ok (.aload_n 0, 1) := by decide +kernel
theorem dX4_readCorner_13 : decode cX4_readCorner 13 = .ok (.getfield 35, 3) := by decide +kernel
theorem dX4_readCorner_16 : decode cX4_readCorner 16 = .ok (.iload_n 1, 1) := by decide +kernel
theorem dX4_readCorner_17 : decode cX4_readCorner 17 = .ok (.invokevirtual 134, 3) := by decide +kernel
theorem dX4_readCorner_20 : decode cX4_readCorner 20 = .ok (.iconst 1, 1) := by decide +kernel
theorem dX4_readCorner_21 : decode cX4_readCorner 21 = .ok (.ireturn, 1) := by decide +kernel
theorem dX4_readRoad_0 : decode cX4_readRoad 0 = .ok (.aload_n 0, 1) := by decide +kernel
theorem dX4_readRoad_1 : decode cX4_readRoad 1 = .ok (.invokevirtual 138, 3) := by decide +kernel
theorem dX4_readRoad_4 : decode cX4_readRoad 4 = .ok (.istore_n 1, 1) := by decide +kernel
theorem dX4_readRoad_5 : decode cX4_readRoad 5 = .ok (.iload_n 1, 1) := by decide +kernel
theorem dX4_readRoad_6 : decode cX4_readRoad 6 = .ok (.iconst (-1), 1) := by decide +kernel
theorem dX4_readRoad_7 : decode cX4_readRoad 7 = .ok (.if_icmp .ne 5, 3) := by decide +kernel
theorem dX4_readRoad_10 : decode cX4_readRoad 10 = .ok (.iconst 0, 1) := by decide +kernel
theorem dX4_readRoad_11 : decode cX4_readRoad 11 = .ok (.ireturn, 1) := by decide +kernel
theorem dX4_readRoad_12 : decode cX4_readRoad 12 = .ok (.aload_n 0, 1) := by decide +kernel
theorem dX4_readRoad_13 : decode cX4_readRoad 13 = .ok (.getfield 14, 3) := by decide +kernel
theorem dX4_readRoad_16 : decode cX4_readRoad 16 = .ok (.invokevirtual 119, 3) := by decide +kernel
theorem dX4_readRoad_19 : decode cX4_readRoad 19 = .ok (.aload_n 0, 1) := by decide +kernel
theorem dX4_readRoad_20 : decode cX4_readRoad 20 = .ok (.getfield 14, 3) := by decide +kernel
theorem dX4_readRoad_23 : decode cX4_readRoad 23 = .ok (.sipush 265, 3) := by decide +kernel
theorem dX4_readRoad_26 : decode cX4_readRoad 26 = .ok (.invokevirtual 53, 3) := by decide +kernel
theorem dX4_readRoad_29 : decode cX4_readRoad 29 = .ok (.ifCond .ne 5, 3) := by decide +kernel
theorem dX4_readRoad_32 : decode cX4_readRoad 32 = .ok (.iconst 0, 1) := by decide +kernel
theorem dX4_readRoad_33 : decode cX4_readRoad 33 = .ok (.ireturn, 1) := by decide +kernel
theorem dX4_readRoad_34 : decode cX4_readRoad 34 = .ok (.aload_n 0, 1) := by decide +kernel
theorem dX4_readRoad_35 : decode cX4_readRoad 35 = .ok (.invokevirtual 138, 3) := by decide +kernel
theorem dX4_readRoad_38 : decode cX4_readRoad 38 = .ok (.istore_n 2, 1) := by decide +kernel
theorem dX4_readRoad_39 : decode cX4_readRoad 39 = .ok (.iload_n 2, 1) := by decide +kernel
theorem dX4_readRoad_40 : decode cX4_readRoad 40 = .ok (.iconst (-1), 1) := by decide +kernel
theorem dX4_readRoad_41 : decode cX4_readRoad 41 = .ok (.if_icmp .ne 5, 3) := by decide +kernel
theorem dX4_readRoad_44 : decode cX4_readRoad 44 = .ok (.iconst 0, 1) := by decide +kernel
theorem dX4_readRoad_45 : decode cX4_readRoad 45 = .ok (.ireturn, 1) := by decide +kernel
theorem dX4_readRoad_46 : decode cX4_readRoad 46 = .ok (.iload_n 2, 1) := by decide +kernel
theorem dX4_readRoad_47 : decode cX4_readRoad 47 = .ok (.iload_n 1, 1) := by decide +kernel
theorem dX4_readRoad_48 : decode cX4_readRoad 48 = .ok (.if_icmp .eq 15, 3) := by decide +kernel
theorem dX4_readRoad_51 : decode cX4_readRoad 51 = .ok (.aload_n 0, 1) := by decide +kernel
theorem dX4_readRoad_52 : decode cX4_readRoad 52 = .ok (.getfield 35, 3) := by decide +kernel
theorem dX4_readRoad_55 : decode cX4_readRoad 55 = .ok (.iload_n 1, 1) := by decide +kernel
theorem dX4_readRoad_56 : decode cX4_readRoad 56 = .ok (.iload_n 2, 1) := by decide +kernel
theorem dX4_readRoad_57 : decode cX4_readRoad 57 = .ok (.invokevirtual 141, 3) := by decide +kernel
theorem dX4_readRoad_60 : decode cX4_readRoad 60 = .ok (.ifCond .eq 19, 3) := by decide +kernel
theorem dX4_readRoad_63 : decode cX4_readRoad 63 = .ok (.aload_n 0, 1) := by decide +kernel
theorem dX4_readRoad_64 : decode cX4_readRoad 64 = .ok (.getfield 14, 3) := by decide +kernel
theorem dX4_readRoad_67 : decode cX4_readRoad 67 = .ok (.iconst 3, 1) := by decide +kernel
theorem dX4_readRoad_68 : decode cX4_readRoad 68 = .ok (.aload_n 0, 1) := by decide +kernel
theorem dX4_readRoad_69 : decode cX4_readRoad 69 = .ok (.getfield 14, 3) := by decide +kernel
theorem dX4_readRoad_72 : decode cX4_readRoad 72 = .ok (.getfield 60, 3) := by decide +kernel
theorem dX4_readRoad_75 : decode cX4_readRoad 75 = .ok (.invokevirtual 63, 3) := by decide +kernel
theorem dX4_readRoad_78 : decode cX4_readRoad 78 = .ok (.ireturn, 1) := by decide +kernel
theorem dX4_readRoad_79 : decode cX4_readRoad 79 = .ok (.aload_n 0, 1) := by decide +kernel
theorem dX4_readRoad_80 : decode cX4_readRoad 80 = .ok (.getfield 14, 3) := by decide +kernel
theorem dX4_readRoad_83 : decode cX4_readRoad 83 = .ok (.invokevirtual 119, 3) := by decide +kernel
theorem dX4_readRoad_86 : decode cX4_readRoad 86 = .ok (.aload_n 0, 1) := by decide +kernel
theorem dX4_readRoad_87 : decode cX4_readRoad 87 = .ok (.getfield 14, 3) := by decide +kernel
theorem dX4_readRoad_90 : decode cX4_readRoad 90 = .ok (.sipush 266, 3) := by decide +kernel
theorem dX4_readRoad_93 : decode cX4_readRoad 93 = .ok (.invokevirtual 53, 3) := by decide +kernel
theorem dX4_readRoad_96 : decode cX4_readRoad 96 = .ok (.ifCond .eq 13, 3) := by decide +kernel
theorem dX4_readRoad_99 : decode cX4_readRoad 99 = .ok (.aload_n 0, 1) := by decide +kernel
theorem dX4_readRoad_100 : decode cX4_readRoad 100 = .ok (.iconst 1, 1) := by decide +kernel
theorem dX4_readRoad_101 : decode cX4_readRoad 101 = .ok (.bipush 30, 2) := by decide +kernel
theorem dX4_readRoad_103 : decode cX4_readRoad 103 = .ok (.invokevirtual 126, 3) := by decide +kernel
theorem dX4_readRoad_106 : decode cX4_readRoad 106 = .ok (.goto 4, 3) := by decide +kernel
theorem dX4_readRoad_109 : decode cX4_readRoad 109 = .ok (.iconst (-1), 1) := by decide +kernel
theorem dX4_readRoad_110 : decode cX4_readRoad 110 = .ok (.istore_n 3, 1) := by decide +kernel
theorem dX4_readRoad_111 : decode cX4_readRoad 111 = .ok (.iload_n 3, 1) := by decide +kernel
theorem dX4_readRoad_112 : decode cX4_readRoad 112 = .ok (.iconst (-1), 1) := by decide +kernel
theorem dX4_readRoad_113 : decode cX4_readRoad 113 = .ok (.if_icmp .ne 5, 3) := by decide +kernel
theorem dX4_readRoad_116 : decode cX4_readRoad 116 = .ok (.iconst 0, 1) := by decide +kernel
theorem dX4_readRoad_117 : decode cX4_readRoad 117 = .ok (.ireturn, 1) := by decide +kernel
theorem dX4_readRoad_118 : decode cX4_readRoad 118 = .ok (.aload_n 0, 1) := by decide +kernel
theorem dX4_readRoad_119 : decode cX4_readRoad 119 = .ok (.getfield 35, 3) := by decide +kernel
theorem dX4_readRoad_122 : decode cX4_readRoad 122 = .ok (.iload_n 1, 1) := by decide +kernel
theorem dX4_readRoad_123 : decode cX4_readRoad 123 = .ok (.iload_n 2, 1) := by decide +kernel
theorem dX4_readRoad_124 : decode cX4_readRoad 124 = .ok (.iload_n 3, 1) := by decide +kernel
theorem dX4_readRoad_125 : decode cX4_readRoad 125 = .ok (.invokevirtual 144, 3) := by decide +kernel
theorem dX4_readRoad_128 : decode cX4_readRoad 128 = .ok (.iconst 1, 1) := by decide +kernel
theorem dX4_readRoad_129 : decode cX4_readRoad 129 = .ok (.ireturn, 1) := by decide +kernel
theorem dX4_readPalm_0 : decode cX4_readPalm 0 = .ok (.aload_n 0, 1) := by decide +kernel
theorem dX4_readPalm_1 : decode cX4_readPalm 1 = .ok (.invokevirtual 138, 3) := by decide +kernel
theorem dX4_readPalm_4 : decode cX4_readPalm 4 = .ok (.istore_n 1, 1) := by decide +kernel
theorem dX4_readPalm_5 : decode cX4_readPalm 5 = .ok (.iload_n 1, 1) := by decide +kernel
theorem dX4_readPalm_6 : decode cX4_readPalm 6 = .ok (.iconst (-1), 1) := by decide +kernel
theorem dX4_readPalm_7 : decode cX4_readPalm 7 = .ok (.if_icmp .ne 5, 3) := by decide +kernel
theorem dX4_readPalm_10 : decode cX4_readPalm 10 = .ok (.iconst 0, 1) := by decide +kernel
theorem dX4_readPalm_11 : decode cX4_readPalm 11 = .ok (.ireturn, 1) := by decide +kernel
theorem dX4_readPalm_12 : decode cX4_readPalm 12 = .ok (.aload_n 0, 1) := by decide +kernel
theorem dX4_readPalm_13 : decode cX4_readPalm 13 = .ok (.getfield 35, 3) := by decide +kernel
theorem dX4_readPalm_16 : decode cX4_readPalm 16 = .ok (.getfield 147, 3) := by decide +kernel
theorem dX4_readPalm_19 : decode cX4_readPalm 19 = .ok (.iload_n 1, 1) := by decide +kernel
theorem dX4_readPalm_20 : decode cX4_readPalm 20 = .ok (.iaload, 1) := by decide +kernel
theorem dX4_readPalm_21 : decode cX4_readPalm 21 = .ok (.iconst (-1), 1) := by decide +kernel
theorem dX4_readPalm_22 : decode cX4_readPalm 22 = .ok (.if_icmp .eq 19, 3) := by decide +kernel
theorem dX4_readPalm_25 : decode cX4_readPalm 25 = .ok (.aload_n 0, 1) := by decide +kernel
theorem dX4_readPalm_26 : decode cX4_readPalm 26 = .ok (.getfield 14, 3) := by decide +kernel
theorem dX4_readPalm_29 : decode cX4_readPalm 29 = .ok (.iconst 3, 1) := by decide +kernel
theorem dX4_readPalm_30 : decode cX4_readPalm 30 = .ok (.aload_n 0, 1) := by decide +kernel
theorem dX4_readPalm_31 : decode cX4_readPalm 31 = .ok (.getfield 14, 3) := by decide +kernel
theorem dX4_readPalm_34 : decode cX4_readPalm 34 = .ok (.getfield 60, 3) := by decide +kernel
theorem dX4_readPalm_37 : decode cX4_readPalm 37 = .ok (.invokevirtual 63, 3) := by decide +kernel
theorem dX4_readPalm_40 : decode cX4_readPalm 40 = .ok (.ireturn, 1) := by decide +kernel
theorem dX4_readPalm_41 : decode cX4_readPalm 41 = .ok (.aload_n 0, 1) := by decide +kernel
theorem dX4_readPalm_42 : decode cX4_readPalm 42 = .ok (.getfield 14, 3) := by decide +kernel
theorem dX4_readPalm_45 : decode cX4_readPalm 45 = .ok (.invokevirtual 119, 3) := by decide +kernel
theorem dX4_readPalm_48 : decode cX4_readPalm 48 = .ok (.aload_n 0, 1) := by decide +kernel
theorem dX4_readPalm_49 : decode cX4_readPalm 49 = .ok (.getfield 14, 3) := by decide +kernel
theorem dX4_readPalm_52 : decode cX4_readPalm 52 = .ok (.sipush 268, 3) := by decide +kernel
theorem dX4_readPalm_55 : decode cX4_readPalm 55 = .ok (.invokevirtual 53, 3) := by decide +kernel
theorem dX4_readPalm_58 : decode cX4_readPalm 58 = .ok (.ifCond .ne 5, 3) := by decide +kernel
theorem dX4_readPalm_61 : decode cX4_readPalm 61 = .ok (.iconst 0, 1) := by decide +kernel
theorem dX4_readPalm_62 : decode cX4_readPalm 62 = .ok (.ireturn, 1) := by decide +kernel
theorem dX4_readPalm_63 : decode cX4_readPalm 63 = .ok (.aload_n 0, 1) := by decide +kernel
theorem dX4_readPalm_64 : decode cX4_readPalm 64 = .ok (.getfield 14, 3) := by decide +kernel
theorem dX4_readPalm_67 : decode cX4_readPalm 67 = .ok (.getfield 45, 3) := by decide +kernel
theorem dX4_readPalm_70 : decode cX4_readPalm 70 = .ok (.sipush 257, 3) := by decide +kernel
theorem dX4_readPalm_73 : decode cX4_readPalm 73 = .ok (.if_icmp .eq 11, 3) := by decide +kernel
theorem dX4_readPalm_76 : decode cX4_readPalm 76 = .ok (.aload_n 0, 1) := by decide +kernel
theorem dX4_readPalm_77 : decode cX4_readPalm 77 = .ok (.getfield 14, 3) := by decide +kernel
theorem dX4_readPalm_80 : decode cX4_readPalm 80 = .ok (.invokevirtual 116, 3) := by decide +kernel
theorem dX4_readPalm_83 : decode cX4_readPalm 83 = .ok (.ireturn, 1) := by decide +kernel
theorem dX4_readPalm_84 : decode cX4_readPalm 84 = .ok (.aload_n 0, 1) := by decide +kernel
theorem dX4_readPalm_85 : decode cX4_readPalm 85 = .ok (.getfield 35, 3) := by decide +kernel
theorem dX4_readPalm_88 : decode cX4_readPalm 88 = .ok (.aload_n 0, 1) := by decide +kernel
theorem dX4_readPalm_89 : decode cX4_readPalm 89 = .ok (.getfield 14, 3) := by decide +kernel
theorem dX4_readPalm_92 : decode cX4_readPalm 92 = .ok (.getfield 151, 3) := by decide +kernel
theorem dX4_readPalm_95 : decode cX4_readPalm 95 = .ok (.invokevirtual 154, 3) := by decide +kernel
theorem dX4_readPalm_98 : decode cX4_readPalm 98 = .ok (.istore_n 2, 1) := by decide +kernel
theorem dX4_readPalm_99 : decode cX4_readPalm 99 = .ok (.iload_n 2, 1) := by decide +kernel
theorem dX4_readPalm_100 : decode cX4_readPalm 100 = .ok (.iconst (-1), 1) := by decide +kernel
theorem dX4_readPalm_101 : decode cX4_readPalm 101 = .ok (.if_icmp .ne 19, 3) := by decide +kernel
theorem dX4_readPalm_104 : decode cX4_readPalm 104 = .ok (.aload_n 0, 1) := by decide +kernel
theorem dX4_readPalm_105 : decode cX4_readPalm 105 = .ok (.getfield 14, 3) := by decide +kernel
theorem dX4_readPalm_108 : decode cX4_readPalm 108 = .ok (.iconst 3, 1) := by decide +kernel
theorem dX4_readPalm_109 : decode cX4_readPalm 109 = .ok (.aload_n 0, 1) := by decide +kernel
theorem dX4_readPalm_110 : decode cX4_readPalm 110 = .ok (.getfield 14, 3) := by decide +kernel
theorem dX4_readPalm_113 : decode cX4_readPalm 113 = .ok (.getfield 60, 3) := by decide +kernel
theorem dX4_readPalm_116 : decode cX4_readPalm 116 = .ok (.invokevirtual 63, 3) := by decide +kernel
theorem dX4_readPalm_119 : decode cX4_readPalm 119 = .ok (.ireturn, 1) := by decide +kernel
theorem dX4_readPalm_120 : decode cX4_readPalm 120 = .ok (.aload_n 0, 1) := by decide +kernel
theorem dX4_readPalm_121 : decode cX4_readPalm 121 = .ok (.getfield 14, 3) := by decide +kernel
theorem dX4_readPalm_124 : decode cX4_readPalm 124 = .ok (.invokevirtual 119, 3) := by decide +kernel
theorem dX4_readPalm_127 : decode cX4_readPalm 127 = .ok (.aload_n 0, 1) := by decide +kernel
theorem dX4_readPalm_128 : decode cX4_readPalm 128 = .ok (.getfield 35, 3) := by decide +kernel
theorem dX4_readPalm_131 : decode cX4_readPalm 131 = .ok (.getfield 147, 3) := by decide +kernel
theorem dX4_readPalm_134 : decode cX4_readPalm 134 = .ok (.iload_n 1, 1) := by decide +kernel
theorem dX4_readPalm_135 : decode cX4_readPalm 135 = .ok (.iload_n 2, 1) := by decide +kernel
theorem dX4_readPalm_136 : decode cX4_readPalm 136 = .ok (.iastore, 1) := by decide +kernel
theorem dX4_readPalm_137 : decode cX4_readPalm 137 = .ok (.iconst 1, 1) := by decide +kernel
theorem dX4_readPalm_138 : decode cX4_readPalm 138 = .ok (.ireturn, 1) := by decide +kernel
theorem dX4_readDoing_0 : decode cX4_readDoing 0 = .ok (.aload_n 0, 1) := by decide +kernel
theorem dX4_readDoing_1 : decode cX4_readDoing 1 = .ok (.invokevirtual 122, 3) := by decide +kernel
theorem dX4_readDoing_4 : decode cX4_readDoing 4 = .ok (.istore_n 1, 1) := by decide +kernel
theorem dX4_readDoing_5 : decode cX4_readDoing 5 = .ok (.iload_n 1, 1) := by decide +kernel
theorem dX4_readDoing_6 : decode cX4_readDoing 6 = .ok (.iconst (-1), 1) := by decide +kernel
theorem dX4_readDoing_7 : decode cX4_readDoing 7 = .ok (.if_icmp .eq 16, 3) := by decide +kernel
theorem dX4_readDoing_10 : decode cX4_readDoing 10 = .ok (.aload_n 0, 1) := by decide +kernel
theorem dX4_readDoing_11 : decode cX4_readDoing 11 = .ok (.getfield 14, 3) := by decide +kernel
theorem dX4_readDoing_14 : decode cX4_readDoing 14 = .ok (.sipush 270, 3) := by decide +kernel
theorem dX4_readDoing_17 : decode cX4_readDoing 17 = .ok (.invokevirtual 53, 3) := by decide +kernel
theorem dX4_readDoing_20 : decode cX4_readDoing 20 = .ok (.ifCond .ne 5, 3) := by decide +kernel
theorem dX4_readDoing_23 : decode cX4_readDoing 23 = .ok (.iconst 0, 1) := by decide +kernel
theorem dX4_readDoing_24 : decode cX4_readDoing 24 = .ok (.ireturn, 1) := by decide +kernel
theorem dX4_readDoing_25 : decode cX4_readDoing 25 = .ok (.aload_n 0, 1) := by decide +kernel
theorem dX4_readDoing_26 : decode cX4_readDoing 26 = .ok (.invokevirtual 138, 3) := by decide +kernel
theorem dX4_readDoing_29 : decode cX4_readDoing 29 = .ok (.istore_n 2, 1) := by decide +kernel
theorem dX4_readDoing_30 : decode cX4_readDoing 30 = .ok (.iload_n 2, 1) := by decide +kernel
theorem dX4_readDoing_31 : decode cX4_readDoing 31 = .ok (.iconst (-1), 1) := by decide +kernel
theorem dX4_readDoing_32 : decode cX4_readDoing 32 = .ok (.if_icmp .ne 5, 3) := by decide +kernel
theorem dX4_readDoing_35 : decode cX4_readDoing 35 = .ok (.iconst 0, 1) := by decide +kernel
theorem dX4_readDoing_36 : decode cX4_readDoing 36 = .ok (.ireturn, 1) := by decide +kernel
theorem dX4_readDoing_37 : decode cX4_readDoing 37 = .ok (.aload_n 0, 1) := by decide +kernel
theorem dX4_readDoing_38 : decode cX4_readDoing 38 = .ok (.getfield 14, 3) := by decide +kernel
theorem dX4_readDoing_41 : decode cX4_readDoing 41 = .ok (.invokevirtual 119, 3) := by decide +kernel
theorem dX4_readDoing_44 : decode cX4_readDoing 44 = .ok (.aload_n 0, 1) := by decide +kernel
theorem dX4_readDoing_45 : decode cX4_readDoing 45 = .ok (.getfield 14, 3) := by decide +kernel
theorem dX4_readDoing_48 : decode cX4_readDoing 48 = .ok (.sipush 271, 3) := by decide +kernel
theorem dX4_readDoing_51 : decode cX4_readDoing 51 = .ok (.invokevirtual 53, 3) := by decide +kernel
theorem dX4_readDoing_54 : decode cX4_readDoing 54 = .ok (.ifCond .eq 13, 3) := by decide +kernel
theorem dX4_readDoing_57 : decode cX4_readDoing 57 = .ok (.aload_n 0, 1) := by decide +kernel
theorem dX4_readDoing_58 : decode cX4_readDoing 58 = .ok (.iconst 0, 1) := by decide +kernel
theorem dX4_readDoing_59 : decode cX4_readDoing 59 = .ok (.bipush 23, 2) := by decide +kernel
theorem dX4_readDoing_61 : decode cX4_readDoing 61 = .ok (.invokevirtual 126, 3) := by decide +kernel
theorem dX4_readDoing_64 : decode cX4_readDoing 64 = .ok (.goto 4, 3) := by decide +kernel
theorem dX4_readDoing_67 : decode cX4_readDoing 67 = .ok (.iconst (-1), 1) := by decide +kernel
theorem dX4_readDoing_68 : decode cX4_readDoing 68 = .ok (.istore_n 3, 1) := by decide +kernel
theorem dX4_readDoing_69 : decode cX4_readDoing 69 = .ok (.iload_n 3, 1) := by decide +kernel
theorem dX4_readDoing_70 : decode cX4_readDoing 70 = .ok (.iconst (-1), 1) := by decide +kernel
theorem dX4_readDoing_71 : decode cX4_readDoing 71 = .ok (.if_icmp .ne 5, 3) := by decide +kernel
theorem dX4_readDoing_74 : decode cX4_readDoing 74 = .ok (.iconst 0, 1) := by decide +kernel
theorem dX4_readDoing_75 : decode cX4_readDoing 75 = .ok (.ireturn, 1) := by decide +kernel
theorem dX4_readDoing_76 : decode cX4_readDoing 76 = .ok (.aload_n 0, 1) := by decide +kernel
theorem dX4_readDoing_77 : decode cX4_readDoing 77 = .ok (.getfield 35, 3) := by decide +kernel
theorem dX4_readDoing_80 : decode cX4_readDoing 80 = .ok (.iload_n 1, 1) := by decide +kernel
theorem dX4_readDoing_81 : decode cX4_readDoing 81 = .ok (.iload_n 2, 1) := by decide +kernel
theorem dX4_readDoing_82 : decode cX4_readDoing 82 = .ok (.iload_n 3, 1) := by decide +kernel
theorem dX4_readDoing_83 : decode cX4_readDoing 83 = .ok (.invokevirtual 158, 3) := by decide +kernel
theorem dX4_readDoing_86 : decode cX4_readDoing 86 = .ok (.iconst 1, 1) := by decide +kernel
theorem dX4_readDoing_87 : decode cX4_readDoing 87 = .ok (.ireturn, 1) := by decide +kernel
theorem dX4_readPass_0 : decode cX4_readPass 0 = .ok (.aload_n 0, 1) := by decide +kernel
theorem dX4_readPass_1 : decode cX4_readPass 1 = .ok (.iconst 0, 1) := by decide +kernel
theorem dX4_readPass_2 : decode cX4_readPass 2 = .ok (.bipush 100, 2) := by decide +kernel
theorem dX4_readPass_4 : decode cX4_readPass 4 = .ok (.invokevirtual 126, 3) := by decide +kernel
theorem dX4_readPass_7 : decode cX4_readPass 7 = .ok (.istore_n 1, 1) := by decide +kernel
theorem dX4_readPass_8 : decode cX4_readPass 8 = .ok (.iload_n 1, 1) := by decide +kernel
theorem dX4_readPass_9 : decode cX4_readPass 9 = .ok (.iconst (-1), 1) := by decide +kernel
theorem dX4_readPass_10 : decode cX4_readPass 10 = .ok (.if_icmp .ne 5, 3) := by decide +kernel
theorem dX4_readPass_13 : decode cX4_readPass 13 = .ok (.iconst 0, 1) := by decide +kernel
theorem dX4_readPass_14 : decode cX4_readPass 14 = .ok (.ireturn, 1) := by decide +kernel
theorem dX4_readPass_15 : decode cX4_readPass 15 = .ok (.aload_n 0, 1) := by decide +kernel
theorem dX4_readPass_16 : decode cX4_readPass 16 = .ok (.getfield 35, 3) := by decide +kernel
theorem dX4_readPass_19 : decode cX4_readPass 19 = .ok (.iload_n 1, 1) := by decide +kernel
theorem dX4_readPass_20 : decode cX4_readPass 20 = .ok (.putfield 161, 3) := by decide +kernel
theorem dX4_readPass_23 : decode cX4_readPass 23 = .ok (.iconst 1, 1) := by decide +kernel
theorem dX4_readPass_24 : decode cX4_readPass 24 = .ok (.ireturn, 1) := by decide +kernel
theorem dX4_newName_0 : decode cX4_newName 0 = .ok (.aload_n 0, 1) := by decide +kernel
theorem dX4_newName_1 : decode cX4_newName 1 = .ok (.getfield 14, 3) := by decide +kernel
theorem dX4_newName_4 : decode cX4_newName 4 = .ok (.getfield 151, 3) := by decide +kernel
theorem dX4_newName_7 : decode cX4_newName 7 = .ok (.istore_n 1, 1) := by decide +kernel
theorem dX4_newName_8 : decode cX4_newName 8 = .ok (.aload_n 0, 1) := by decide +kernel
theorem dX4_newName_9 : decode cX4_newName 9 = .ok (.getfield 14, 3) := by decide +kernel
theorem dX4_newName_12 : decode cX4_newName 12 = .ok (.getfield 45, 3) := by decide +kernel
theorem dX4_newName_15 : decode cX4_newName 15 = .ok (.sipush 257, 3) := by decide +kernel
theorem dX4_newName_18 : decode cX4_newName 18 = .ok (.if_icmp .eq 13, 3) := by decide +kernel
theorem dX4_newName_21 : decode cX4_newName 21 = .ok (.aload_n 0, 1) := by decide +kernel
theorem dX4_newName_22 : decode cX4_newName 22 = .ok (.getfield 14, 3) := by decide +kernel
theorem dX4_newName_25 : decode cX4_newName 25 = .ok (.invokevirtual 116, 3) := by decide +kernel
theorem dX4_newName_28 : decode cX4_newName 28 = .ok (.pop, 1) := by decide +kernel
theorem dX4_newName_29 : decode cX4_newName 29 = .ok (.iconst (-1), 1) := by decide +kernel
theorem dX4_newName_30 : decode cX4_newName 30 = .ok (.ireturn, 1) := by decide +kernel
theorem dX4_newName_31 : decode cX4_newName 31 = .ok (.aload_n 0, 1) := by decide +kernel
theorem dX4_newName_32 : decode cX4_newName 32 = .ok (.getfield 35, 3) := by decide +kernel
theorem dX4_newName_35 : decode cX4_newName 35 = .ok (.iload_n 1, 1) := by decide +kernel
theorem dX4_newName_36 : decode cX4_newName 36 = .ok (.invokevirtual 154, 3) := by decide +kernel
theorem dX4_newName_39 : decode cX4_newName 39 = .ok (.iconst (-1), 1) := by decide +kernel
theorem dX4_newName_40 : decode cX4_newName 40 = .ok (.if_icmp .ne 27, 3) := by decide +kernel
theorem dX4_newName_43 : decode cX4_newName 43 = .ok (.aload_n 0, 1) := by decide +kernel
theorem dX4_newName_44 : decode cX4_newName 44 = .ok (.getfield 35, 3) := by decide +kernel
theorem dX4_newName_47 : decode cX4_newName 47 = .ok (.iload_n 1, 1) := by decide +kernel
theorem dX4_newName_48 : decode cX4_newName 48 = .ok (.invokevirtual 164, 3) := by decide +kernel
theorem dX4_newName_51 : decode cX4_newName 51 = .ok (.iconst (-1), 1) := by decide +kernel
theorem dX4_newName_52 : decode cX4_newName 52 = .ok (.if_icmp .ne 15, 3) := by decide +kernel
theorem dX4_newName_55 : decode cX4_newName 55 = .ok (.aload_n 0, 1) := by decide +kernel
theorem dX4_newName_56 : decode cX4_newName 56 = .ok (.getfield 35, 3) := by decide +kernel
theorem dX4_newName_59 : decode cX4_newName 59 = .ok (.iload_n 1, 1) := by decide +kernel
theorem dX4_newName_60 : decode cX4_newName 60 = .ok (.invokevirtual 167, 3) := by decide +kernel
theorem dX4_newName_63 : decode cX4_newName 63 = .ok (.iconst (-1), 1) := by decide +kernel
theorem dX4_newName_64 : decode cX4_newName 64 = .ok (.if_icmp .eq 21, 3) := by decide +kernel
theorem dX4_newName_67 : decode cX4_newName 67 = .ok (.aload_n 0, 1) := by decide +kernel
theorem dX4_newName_68 : decode cX4_newName 68 = .ok (.getfield 14, 3) := by decide +kernel
theorem dX4_newName_71 : decode cX4_newName 71 = .ok (.iconst 2, 1) := by decide +kernel
theorem dX4_newName_72 : decode cX4_newName 72 = .ok (.aload_n 0, 1) := by decide +kernel
theorem dX4_newName_73 : decode cX4_newName 73 = .ok (.getfield 14, 3) := by decide +kernel
theorem dX4_newName_76 : decode cX4_newName 76 = .ok (.getfield 60, 3) := by decide +kernel
theorem dX4_newName_79 : decode cX4_newName 79 = .ok (.invokevirtual 63, 3) := by decide +kernel
theorem dX4_newName_82 : decode cX4_newName 82 = .ok (.pop, 1) := by decide +kernel
theorem dX4_newName_83 : decode cX4_newName 83 = .ok (.iconst (-1), 1) := by decide +kernel
theorem dX4_newName_84 : decode cX4_newName 84 = .ok (.ireturn, 1) := by decide +kernel
theorem dX4_newName_85 : decode cX4_newName 85 = .ok (.aload_n 0, 1) := by decide +kernel
theorem dX4_newName_86 : decode cX4_newName 86 = .ok (.getfield 14, 3) := by decide +kernel
theorem dX4_newName_89 : decode cX4_newName 89 = .ok (.invokevirtual 119, 3) := by decide +kernel
theorem dX4_newName_92 : decode cX4_newName 92 = .ok (.iload_n 1, 1) := by decide +kernel
theorem dX4_newName_93 : decode cX4_newName 93 = .ok (.ireturn, 1) := by decide +kernel
theorem dX4_cornerHere_0 : decode cX4_cornerHere 0 = .ok (.aload_n 0, 1) := by decide +kernel
theorem dX4_cornerHere_1 : decode cX4_cornerHere 1 = .ok (.getfield 14, 3) := by decide +kernel
theorem dX4_cornerHere_4 : decode cX4_cornerHere 4 = .ok (.getfield 45, 3) := by decide +kernel
theorem dX4_cornerHere_7 : decode cX4_cornerHere 7 = .ok (.sipush 257, 3) := by decide +kernel
theorem dX4_cornerHere_10 : decode cX4_cornerHere 10 = .ok (.if_icmp .eq 13, 3) := by decide +kernel
theorem dX4_cornerHere_13 : decode cX4_cornerHere 13 = .ok (.aload_n 0, 1) := by decide +kernel
theorem dX4_cornerHere_14 : decode cX4_cornerHere 14 = .ok (.getfield 14, 3) := by decide +kernel
theorem dX4_cornerHere_17 : decode cX4_cornerHere 17 = .ok (.invokevirtual 116, 3) := by decide +kernel
theorem dX4_cornerHere_20 : decode cX4_cornerHere 20 = .ok (.pop, 1) := by decide +kernel
theorem dX4_cornerHere_21 : decode cX4_cornerHere 21 = .ok (.iconst (-1), 1) := by decide +kernel
theorem dX4_cornerHere_22 : decode cX4_cornerHere 22 = .ok (.ireturn, 1) := by decide +kernel
theorem dX4_cornerHere_23 : decode cX4_cornerHere 23 = .ok (.aload_n 0, 1) := by decide +kernel
theorem dX4_cornerHere_24 : decode cX4_cornerHere 24 = .ok (.getfield 35, 3) := by decide +kernel
theorem dX4_cornerHere_27 : decode cX4_cornerHere 27 = .ok (.aload_n 0, 1) := by decide +kernel
theorem dX4_cornerHere_28 : decode cX4_cornerHere 28 = .ok (.getfield 14, 3) := by decide +kernel
theorem dX4_cornerHere_31 : decode cX4_cornerHere 31 = .ok (.getfield 151, 3) := by decide +kernel
theorem dX4_cornerHere_34 : decode cX4_cornerHere 34 = .ok (.invokevirtual 164, 3) := by decide +kernel
theorem dX4_cornerHere_37 : decode cX4_cornerHere 37 = .ok (.istore_n 1, 1) := by decide +kernel
theorem dX4_cornerHere_38 : decode cX4_cornerHere 38 = .ok (.iload_n 1, 1) := by decide +kernel
theorem dX4_cornerHere_39 : decode cX4_cornerHere 39 = .ok (.iconst (-1), 1) := by decide +kernel
theorem dX4_cornerHere_40 : decode cX4_cornerHere 40 = .ok (.if_icmp .ne 19, 3) := by decide +kernel
theorem dX4_cornerHere_43 : decode cX4_cornerHere 43 = .ok (.aload_n 0, 1) := by decide +kernel
theorem dX4_cornerHere_44 : decode cX4_cornerHere 44 = .ok (.getfield 14, 3) := by decide +kernel
theorem dX4_cornerHere_47 : decode cX4_cornerHere 47 = .ok (.iconst 3, 1) := by decide +kernel
theorem dX4_cornerHere_48 : decode cX4_cornerHere 48 = .ok (.aload_n 0, 1) := by decide +kernel
theorem dX4_cornerHere_49 : decode cX4_cornerHere 49 = .ok (.getfield 14, 3) := by decide +kernel
theorem dX4_cornerHere_52 : decode cX4_cornerHere 52 = .ok (.getfield 60, 3) := by decide +kernel
theorem dX4_cornerHere_55 : decode cX4_cornerHere 55 = .ok (.invokevirtual 63, 3) := by decide +kernel
theorem dX4_cornerHere_58 : decode cX4_cornerHere 58 = .ok (.pop, 1) := by decide +kernel
theorem dX4_cornerHere_59 : decode cX4_cornerHere 59 = .ok (.iload_n 1, 1) := by decide +kernel
theorem dX4_cornerHere_60 : decode cX4_cornerHere 60 = .ok (.ireturn, 1) := by decide +kernel
theorem dX4_number_0 : decode cX4_number 0 = .ok (.aload_n 0, 1) := by decide +kernel
theorem dX4_number_1 : decode cX4_number 1 = .ok (.getfield 14, 3) := by decide +kernel
theorem dX4_number_4 : decode cX4_number 4 = .ok (.getfield 151, 3) := by decide +kernel
theorem dX4_number_7 : decode cX4_number 7 = .ok (.istore_n 3, 1) := by decide +kernel
theorem dX4_number_8 : decode cX4_number 8 = .ok (.aload_n 0, 1) := by decide +kernel
theorem dX4_number_9 : decode cX4_number 9 = .ok (.getfield 14, 3) := by decide +kernel
theorem dX4_number_12 : decode cX4_number 12 = .ok (.getfield 45, 3) := by decide +kernel
theorem dX4_number_15 : decode cX4_number 15 = .ok (.sipush 256, 3) := by decide +kernel
theorem dX4_number_18 : decode cX4_number 18 = .ok (.if_icmp .eq 13, 3) := by decide +kernel
theorem dX4_number_21 : decode cX4_number 21 = .ok (.aload_n 0, 1) := by decide +kernel
theorem dX4_number_22 : decode cX4_number 22 = .ok (.getfield 14, 3) := by decide +kernel
theorem dX4_number_25 : decode cX4_number 25 = .ok (.invokevirtual 116, 3) := by decide +kernel
theorem dX4_number_28 : decode cX4_number 28 = .ok (.pop, 1) := by decide +kernel
theorem dX4_number_29 : decode cX4_number 29 = .ok (.iconst (-1), 1) := by decide +kernel
theorem dX4_number_30 : decode cX4_number 30 = .ok (.ireturn, 1) := by decide +kernel
theorem dX4_number_31 : decode cX4_number 31 = .ok (.iload_n 3, 1) := by decide +kernel
theorem dX4_number_32 : decode cX4_number 32 = .ok (.iload_n 1, 1) := by decide +kernel
theorem dX4_number_33 : decode cX4_number 33 = .ok (.if_icmp .lt 8, 3) := by decide +kernel
theorem dX4_number_36 : decode cX4_number 36 = .ok (.iload_n 3, 1) := by decide +kernel
theorem dX4_number_37 : decode cX4_number 37 = .ok (.iload_n 2, 1) := by decide +kernel
theorem dX4_number_38 : decode cX4_number 38 = .ok (.if_icmp .le 21, 3) := by decide +kernel
theorem dX4_number_41 : decode cX4_number 41 = .ok (.aload_n 0, 1) := by decide +kernel
theorem dX4_number_42 : decode cX4_number 42 = .ok (.getfield 14, 3) := by decide +kernel
theorem dX4_number_45 : decode cX4_number 45 = .ok (.iconst 4, 1) := by decide +kernel
theorem dX4_number_46 : decode cX4_number 46 = .ok (.aload_n 0, 1) := by decide +kernel
theorem dX4_number_47 : decode cX4_number 47 = .ok (.getfield 14, 3) := by decide +kernel
theorem dX4_number_50 : decode cX4_number 50 = .ok (.getfield 60, 3) := by decide +kernel
theorem dX4_number_53 : decode cX4_number 53 = .ok (.invokevirtual 63, 3) := by decide +kernel
theorem dX4_number_56 : decode cX4_number 56 = .ok (.pop, 1) := by decide +kernel
theorem dX4_number_57 : decode cX4_number 57 = .ok (.iconst (-1), 1) := by decide +kernel
theorem dX4_number_58 : decode cX4_number 58 = .ok (.ireturn, 1) := by decide +kernel
theorem dX4_number_59 : decode cX4_number 59 = .ok (.aload_n 0, 1) := by decide +kernel
theorem dX4_number_60 : decode cX4_number 60 = .ok (.getfield 14, 3) := by decide +kernel
theorem dX4_number_63 : decode cX4_number 63 = .ok (.invokevirtual 119, 3) := by decide +kernel
theorem dX4_number_66 : decode cX4_number 66 = .ok (.iload_n 3, 1) := by decide +kernel
theorem dX4_number_67 : decode cX4_number 67 = .ok (.ireturn, 1) := by decide +kernel
