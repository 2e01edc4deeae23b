theorem dL_sameGroup_74 : decode cL_sameGroup 74 = .ok (.invokevirtual 34, 3) := by decide +kernel
theorem dL_sameGroup_77 : decode cL_sameGroup 77 = .ok (.aload_n 1, 1) := by decide +kernel
theorem dL_sameGroup_78 : decode cL_sameGroup 78 = .ok (.iload_n 2, 1) := by decide +kernel
theorem dL_sameGroup_79 : decode cL_sameGroup 79 = .ok (.iload_n 3, 1) := by decide +kernel
theorem dL_sameGroup_80 : decode cL_sameGroup 80 = .ok (.iconst 1, 1) := by decide +kernel
theorem dL_sameGroup_81 : decode cL_sameGroup 81 = .ok (.invokevirtual 34, 3) := by decide +kernel
theorem dL_sameGroup_84 : decode cL_sameGroup 84 = .ok (.if_icmp .eq 5, 3) := by decide +kernel
theorem dL_sameGroup_87 : decode cL_sameGroup 87 = .ok (.iconst 0, 1) := by decide +kernel
theorem dL_sameGroup_88 : decode cL_sameGroup 88 = .ok (.ireturn, 1) := by decide +kernel
theorem dL_sameGroup_89 : decode cL_sameGroup 89 = .ok (.iinc 3 1, 3) := by decide +kernel
theorem dL_sameGroup_92 : decode cL_sameGroup 92 = .ok (.goto (-45), 3) := by decide +kernel
theorem dL_sameGroup_95 : decode cL_sameGroup 95 = .ok (.aload_n 0, 1) := by decide +kernel
theorem dL_sameGroup_96 : decode cL_sameGroup 96 = .ok (.iload_n 2, 1) := by decide +kernel
theorem dL_sameGroup_97 : decode cL_sameGroup 97 = .ok (.iconst 0, 1) := by decide +kernel
theorem dL_sameGroup_98 : decode cL_sameGroup 98 = .ok (.invokevirtual 28, 3) := by decide +kernel
theorem dL_sameGroup_101 : decode cL_sameGroup 101 = .ok (.ifCond .lt 7, 3) := by decide +kernel
theorem dL_sameGroup_104 : decode cL_sameGroup 104 = .ok (.iconst 1, 1) := by decide +kernel
theorem dL_sameGroup_105 : decode cL_sameGroup 105 = .ok (.goto 4, 3) := by decide +kernel
theorem dL_sameGroup_108 : decode cL_sameGroup 108 = .ok (.iconst 0, 1) := by decide +kernel
theorem dL_sameGroup_109 : decode cL_sameGroup 109 = .ok (.ireturn, 1) := by decide +kernel
theorem dL_same_0 : decode cL_same 0 = .ok (.aload_n 0, 1) := by decide +kernel
theorem dL_same_1 : decode cL_same 1 = .ok (.bipush 7, 2) := by decide +kernel
theorem dL_same_3 : decode cL_same 3 = .ok (.invokevirtual 38, 3) := by decide +kernel
theorem dL_same_6 : decode cL_same 6 = .ok (.istore_n 3, 1) := by decide +kernel
theorem dL_same_7 : decode cL_same 7 = .ok (.aload_n 1, 1) := by decide +kernel
theorem dL_same_8 : decode cL_same 8 = .ok (.bipush 7, 2) := by decide +kernel
theorem dL_same_10 : decode cL_same 10 = .ok (.invokevirtual 38, 3) := by decide +kernel
theorem dL_same_13 : decode cL_same 13 = .ok (.iload_n 3, 1) := by decide +kernel
theorem dL_same_14 : decode cL_same 14 = .ok (.if_icmp .eq 5, 3) := by decide +kernel
theorem dL_same_17 : decode cL_same 17 = .ok (.iconst 0, 1) := by decide +kernel
theorem dL_same_18 : decode cL_same 18 = .ok (.ireturn, 1) := by decide +kernel
theorem dL_same_19 : decode cL_same 19 = .ok (.iconst 0, 1) := by decide +kernel
theorem dL_same_20 : decode cL_same 20 = .ok (.istore 4, 2) := by decide +kernel
theorem dL_same_22 : decode cL_same 22 = .ok (.iload 4, 2) := by decide +kernel
theorem dL_same_24 : decode cL_same 24 = .ok (.iload_n 3, 1) := by decide +kernel
theorem dL_same_25 : decode cL_same 25 = .ok (.if_icmp .ge 21, 3) := by decide +kernel
theorem dL_same_28 : decode cL_same 28 = .ok (.aload_n 0, 1) := by decide +kernel
theorem dL_same_29 : decode cL_same 29 = .ok (.aload_n 1, 1) := by decide +kernel
theorem dL_same_30 : decode cL_same 30 = .ok (.iload 4, 2) := by decide +kernel
theorem dL_same_32 : decode cL_same 32 = .ok (.invokestatic 42, 3) := by decide +kernel
theorem dL_same_35 : decode cL_same 35 = .ok (.ifCond .ne 5, 3) := by decide +kernel
theorem dL_same_38 : decode cL_same 38 = .ok (.iconst 0, 1) := by decide +kernel
theorem dL_same_39 : decode cL_same 39 = .ok (.ireturn, 1) := by decide +kernel
theorem dL_same_40 : decode cL_same 40 = .ok (.iinc 4 1, 3) := by decide +kernel
theorem dL_same_43 : decode cL_same 43 = .ok (.goto (-21), 3) := by decide +kernel
theorem dL_same_46 : decode cL_same 46 = .ok (.iconst 0, 1) := by decide +kernel
theorem dL_same_47 : decode cL_same 47 = .ok (.istore 4, 2) := by decide +kernel
theorem dL_same_49 : decode cL_same 49 = .ok (.iload 4, 2) := by decide +kernel
theorem dL_same_51 : decode cL_same 51 = .ok (.bipush 13, 2) := by decide +kernel
theorem dL_same_53 : decode cL_same 53 = .ok (.if_icmp .ge 26, 3) := by decide +kernel
theorem dL_same_56 : decode cL_same 56 = .ok (.aload_n 0, 1) := by decide +kernel
theorem dL_same_57 : decode cL_same 57 = .ok (.iload 4, 2) := by decide +kernel
theorem dL_same_59 : decode cL_same 59 = .ok (.invokevirtual 38, 3) := by decide +kernel
theorem dL_same_62 : decode cL_same 62 = .ok (.aload_n 1, 1) := by decide +kernel
theorem dL_same_63 : decode cL_same 63 = .ok (.iload 4, 2) := by decide +kernel
theorem dL_same_65 : decode cL_same 65 = .ok (.invokevirtual 38, 3) := by decide +kernel
theorem dL_same_68 : decode cL_same 68 = .ok (.if_icmp .eq 5, 3) := by decide +kernel
theorem dL_same_71 : decode cL_same 71 = .ok (.iconst 0, 1) := by decide +kernel
theorem dL_same_72 : decode cL_same 72 = .ok (.ireturn, 1) := by decide +kernel
theorem dL_same_73 : decode cL_same 73 = .ok (.iinc 4 1, 3) := by decide +kernel
theorem dL_same_76 : decode cL_same 76 = .ok (.goto (-27), 3) := by decide +kernel
theorem dL_same_79 : decode cL_same 79 = .ok (.iconst 0, 1) := by decide +kernel
theorem dL_same_80 : decode cL_same 80 = .ok (.istore 4, 2) := by decide +kernel
theorem dL_same_82 : decode cL_same 82 = .ok (.iload 4, 2) := by decide +kernel
theorem dL_same_84 : decode cL_same 84 = .ok (.bipush 6, 2) := by decide +kernel
theorem dL_same_86 : decode cL_same 86 = .ok (.if_icmp .ge 173, 3) := by decide +kernel
theorem dL_same_89 : decode cL_same 89 = .ok (.iconst 0, 1) := by decide +kernel
theorem dL_same_90 : decode cL_same 90 = .ok (.istore 5, 2) := by decide +kernel
theorem dL_same_92 : decode cL_same 92 = .ok (.iload 5, 2) := by decide +kernel
theorem dL_same_94 : decode cL_same 94 = .ok (.bipush 6, 2) := by decide +kernel
theorem dL_same_96 : decode cL_same 96 = .ok (.if_icmp .ge 30, 3) := by decide +kernel
theorem dL_same_99 : decode cL_same 99 = .ok (.aload_n 0, 1) := by decide +kernel
theorem dL_same_100 : decode cL_same 100 = .ok (.iload 4, 2) := by decide +kernel
theorem dL_same_102 : decode cL_same 102 = .ok (.iload 5, 2) := by decide +kernel
theorem dL_same_104 : decode cL_same 104 = .ok (.invokevirtual 46, 3) := by decide +kernel
theorem dL_same_107 : decode cL_same 107 = .ok (.aload_n 1, 1) := by decide +kernel
theorem dL_same_108 : decode cL_same 108 = .ok (.iload 4, 2) := by decide +kernel
theorem dL_same_110 : decode cL_same 110 = .ok (.iload 5, 2) := by decide +kernel
theorem dL_same_112 : decode cL_same 112 = .ok (.invokevirtual 46, 3) := by decide +kernel
theorem dL_same_115 : decode cL_same 115 = .ok (.if_icmp .eq 5, 3) := by decide +kernel
theorem dL_same_118 : decode cL_same 118 = .ok (.iconst 0, 1) := by decide +kernel
theorem dL_same_119 : decode cL_same 119 = .ok (.ireturn, 1) := by decide +kernel
theorem dL_same_120 : decode cL_same 120 = .ok (.iinc 5 1, 3) := by decide +kernel
theorem dL_same_123 : decode cL_same 123 = .ok (.goto (-31), 3) := by decide +kernel
theorem dL_same_126 : decode cL_same 126 = .ok (.iload 4, 2) := by decide +kernel
theorem dL_same_128 : decode cL_same 128 = .ok (.iconst 1, 1) := by decide +kernel
theorem dL_same_129 : decode cL_same 129 = .ok (.iadd, 1) := by decide +kernel
theorem dL_same_130 : decode cL_same 130 = .ok (.iload_n 2, 1) := by decide +kernel
theorem dL_same_131 : decode cL_same 131 = .ok (.iconst 5, 1) := by decide +kernel
theorem dL_same_132 : decode cL_same 132 = .ok (.invokestatic 15, 3) := by decide +kernel
theorem dL_same_135 : decode cL_same 135 = .ok (.iadd, 1) := by decide +kernel
theorem dL_same_136 : decode cL_same 136 = .ok (.bipush 6, 2) := by decide +kernel
theorem dL_same_138 : decode cL_same 138 = .ok (.irem, 1) := by decide +kernel
theorem dL_same_139 : decode cL_same 139 = .ok (.istore 5, 2) := by decide +kernel
theorem dL_same_141 : decode cL_same 141 = .ok (.aload_n 0, 1) := by decide +kernel
theorem dL_same_142 : decode cL_same 142 = .ok (.iload 4, 2) := by decide +kernel
theorem dL_same_144 : decode cL_same 144 = .ok (.invokevirtual 49, 3) := by decide +kernel
theorem dL_same_147 : decode cL_same 147 = .ok (.aload_n 1, 1) := by decide +kernel
theorem dL_same_148 : decode cL_same 148 = .ok (.iload 4, 2) := by decide +kernel
theorem dL_same_150 : decode cL_same 150 = .ok (.invokevirtual 49, 3) := by decide +kernel
theorem dL_same_153 : decode cL_same 153 = .ok (.if_icmp .ne 98, 3) := by decide +kernel
theorem dL_same_156 : decode cL_same 156 = .ok (.aload_n 0, 1) := by decide +kernel
theorem dL_same_157 : decode cL_same 157 = .ok (.iload 4, 2) := by decide +kernel
theorem dL_same_159 : decode cL_same 159 = .ok (.iconst 0, 1) := by decide +kernel
theorem dL_same_160 : decode cL_same 160 = .ok (.invokevirtual 52, 3) := by decide +kernel
theorem dL_same_163 : decode cL_same 163 = .ok (.aload_n 1, 1) := by decide +kernel
theorem dL_same_164 : decode cL_same 164 = .ok (.iload 4, 2) := by decide +kernel
theorem dL_same_166 : decode cL_same 166 = .ok (.iconst 0, 1) := by decide +kernel
theorem dL_same_167 : decode cL_same 167 = .ok (.invokevirtual 52, 3) := by decide +kernel
theorem dL_same_170 : decode cL_same 170 = .ok (.lcmp, 1) := by decide +kernel
theorem dL_same_171 : decode cL_same 171 = .ok (.ifCond .ne 80, 3) := by decide +kernel
theorem dL_same_174 : decode cL_same 174 = .ok (.aload_n 0, 1) := by decide +kernel
theorem dL_same_175 : decode cL_same 175 = .ok (.iload 4, 2) := by decide +kernel
theorem dL_same_177 : decode cL_same 177 = .ok (.iconst 1, 1) := by decide +kernel
theorem dL_same_178 : decode cL_same 178 = .ok (.invokevirtual 52, 3) := by decide +kernel
theorem dL_same_181 : decode cL_same 181 = .ok (.aload_n 1, 1) := by decide +kernel
theorem dL_same_182 : decode cL_same 182 = .ok (.iload 4, 2) := by decide +kernel
theorem dL_same_184 : decode cL_same 184 = .ok (.iconst 1, 1) := by decide +kernel
theorem dL_same_185 : decode cL_same 185 = .ok (.invokevirtual 52, 3) := by decide +kernel
theorem dL_same_188 : decode cL_same 188 = .ok (.lcmp, 1) := by decide +kernel
theorem dL_same_189 : decode cL_same 189 = .ok (.ifCond .ne 62, 3) := by decide +kernel
theorem dL_same_192 : decode cL_same 192 = .ok (.aload_n 0, 1) := by decide +kernel
theorem dL_same_193 : decode cL_same 193 = .ok (.iload 4, 2) := by decide +kernel
theorem dL_same_195 : decode cL_same 195 = .ok (.iload 5, 2) := by decide +kernel
theorem dL_same_197 : decode cL_same 197 = .ok (.iconst 0, 1) := by decide +kernel
theorem dL_same_198 : decode cL_same 198 = .ok (.invokevirtual 56, 3) := by decide +kernel
theorem dL_same_201 : decode cL_same 201 = .ok (.aload_n 1, 1) := by decide +kernel
theorem dL_same_202 : decode cL_same 202 = .ok (.iload 4, 2) := by decide +kernel
theorem dL_same_204 : decode cL_same 204 = .ok (.iload 5, 2) := by decide +kernel
theorem dL_same_206 : decode cL_same 206 = .ok (.iconst 0, 1) := by decide +kernel
theorem dL_same_207 : decode cL_same 207 = .ok (.invokevirtual 56, 3) := by decide +kernel
theorem dL_same_210 : decode cL_same 210 = .ok (.lcmp, 1) := by decide +kernel
theorem dL_same_211 : decode cL_same 211 = .ok (.ifCond .ne 40, 3) := by decide +kernel
theorem dL_same_214 : decode cL_same 214 = .ok (.aload_n 0, 1) := by decide +kernel
theorem dL_same_215 : decode cL_same 215 = .ok (.iload 4, 2) := by decide +kernel
theorem dL_same_217 : decode cL_same 217 = .ok (.iload 5, 2) := by decide +kernel
theorem dL_same_219 : decode cL_same 219 = .ok (.iload_n 2, 1) := by decide +kernel
theorem dL_same_220 : decode cL_same 220 = .ok (.iconst 4, 1) := by decide +kernel
theorem dL_same_221 : decode cL_same 221 = .ok (.ishr, 1) := by decide +kernel
theorem dL_same_222 : decode cL_same 222 = .ok (.bipush 31, 2) := by decide +kernel
theorem dL_same_224 : decode cL_same 224 = .ok (.iand, 1) := by decide +kernel
theorem dL_same_225 : decode cL_same 225 = .ok (.bipush 16, 2) := by decide +kernel
theorem dL_same_227 : decode cL_same 227 = .ok (.isub, 1) := by decide +kernel
theorem dL_same_228 : decode cL_same 228 = .ok (.invokevirtual 60, 3) := by decide +kernel
theorem dL_same_231 : decode cL_same 231 = .ok (.aload_n 1, 1) := by decide +kernel
theorem dL_same_232 : decode cL_same 232 = .ok (.iload 4, 2) := by decide +kernel
theorem dL_same_234 : decode cL_same 234 = .ok (.iload 5, 2) := by decide +kernel
theorem dL_same_236 : decode cL_same 236 = .ok (.iload_n 2, 1) := by decide +kernel
theorem dL_same_237 : decode cL_same 237 = .ok (.iconst 4, 1) := by decide +kernel
theorem dL_same_238 : decode cL_same 238 = .ok (.ishr, 1) := by decide +kernel
theorem dL_same_239 : decode cL_same 239 = .ok (.bipush 31, 2) := by decide +kernel
theorem dL_same_241 : decode cL_same 241 = .ok (.iand, 1) := by decide +kernel
theorem dL_same_242 : decode cL_same 242 = .ok (.bipush 16, 2) := by decide +kernel
theorem dL_same_244 : decode cL_same 244 = .ok (.isub, 1) := by decide +kernel
theorem dL_same_245 : decode cL_same 245 = .ok (.invokevirtual 60, 3) := by decide +kernel
theorem dL_same_248 : decode cL_same 248 = .ok (.if_icmp .eq 5, 3) := by decide +kernel
theorem dL_same_251 : decode cL_same 251 = .ok (.iconst 0, 1) := by decide +kernel
theorem dL_same_252 : decode cL_same 252 = .ok (.ireturn, 1) := by decide +kernel
theorem dL_same_253 : decode cL_same 253 = .ok (.iinc 4 1, 3) := by decide +kernel
theorem dL_same_256 : decode cL_same 256 = .ok (.goto (-174), 3) := by decide +kernel
theorem dL_same_259 : decode cL_same 259 = .ok (.aload_n 0, 1) := by decide +kernel
theorem dL_same_260 : decode cL_same 260 = .ok (.iload_n 2, 1) := by decide +kernel
theorem dL_same_261 : decode cL_same 261 = .ok (.bipush 63, 2) := by decide +kernel
theorem dL_same_263 : decode cL_same 263 = .ok (.iand, 1) := by decide +kernel
theorem dL_same_264 : decode cL_same 264 = .ok (.iload_n 2, 1) := by decide +kernel
theorem dL_same_265 : decode cL_same 265 = .ok (.bipush 6, 2) := by decide +kernel
theorem dL_same_267 : decode cL_same 267 = .ok (.ishr, 1) := by decide +kernel
theorem dL_same_268 : decode cL_same 268 = .ok (.bipush 63, 2) := by decide +kernel
theorem dL_same_270 : decode cL_same 270 = .ok (.iand, 1) := by decide +kernel
theorem dL_same_271 : decode cL_same 271 = .ok (.invokevirtual 63, 3) := by decide +kernel
theorem dL_same_274 : decode cL_same 274 = .ok (.aload_n 1, 1) := by decide +kernel
theorem dL_same_275 : decode cL_same 275 = .ok (.iload_n 2, 1) := by decide +kernel
theorem dL_same_276 : decode cL_same 276 = .ok (.bipush 63, 2) := by decide +kernel
theorem dL_same_278 : decode cL_same 278 = .ok (.iand, 1) := by decide +kernel
theorem dL_same_279 : decode cL_same 279 = .ok (.iload_n 2, 1) := by decide +kernel
theorem dL_same_280 : decode cL_same 280 = .ok (.bipush 6, 2) := by decide +kernel
theorem dL_same_282 : decode cL_same 282 = .ok (.ishr, 1) := by decide +kernel
theorem dL_same_283 : decode cL_same 283 = .ok (.bipush 63, 2) := by decide +kernel
theorem dL_same_285 : decode cL_same 285 = .ok (.iand, 1) := by decide +kernel
theorem dL_same_286 : decode cL_same 286 = .ok (.invokevirtual 63, 3) := by decide +kernel
theorem dL_same_289 : decode cL_same 289 = .ok (.if_icmp .ne 71, 3) := by decide +kernel
theorem dL_same_292 : decode cL_same 292 = .ok (.aload_n 0, 1) := by decide +kernel
theorem dL_same_293 : decode cL_same 293 = .ok (.iload_n 2, 1) := by decide +kernel
theorem dL_same_294 : decode cL_same 294 = .ok (.bipush 12, 2) := by decide +kernel
theorem dL_same_296 : decode cL_same 296 = .ok (.ishr, 1) := by decide +kernel
theorem dL_same_297 : decode cL_same 297 = .ok (.bipush 63, 2) := by decide +kernel
theorem dL_same_299 : decode cL_same 299 = .ok (.iand, 1) := by decide +kernel
theorem dL_same_300 : decode cL_same 300 = .ok (.iconst 1, 1) := by decide +kernel
theorem dL_same_301 : decode cL_same 301 = .ok (.invokevirtual 66, 3) := by decide +kernel
theorem dL_same_304 : decode cL_same 304 = .ok (.aload_n 1, 1) := by decide +kernel
theorem dL_same_305 : decode cL_same 305 = .ok (.iload_n 2, 1) := by decide +kernel
theorem dL_same_306 : decode cL_same 306 = .ok (.bipush 12, 2) := by decide +kernel
theorem dL_same_308 : decode cL_same 308 = .ok (.ishr, 1) := by decide +kernel
theorem dL_same_309 : decode cL_same 309 = .ok (.bipush 63, 2) := by decide +kernel
theorem dL_same_311 : decode cL_same 311 = .ok (.iand, 1) := by decide +kernel
theorem dL_same_312 : decode cL_same 312 = .ok (.iconst 1, 1) := by decide +kernel
theorem dL_same_313 : decode cL_same 313 = .ok (.invokevirtual 66, 3) := by decide +kernel
theorem dL_same_316 : decode cL_same 316 = .ok (.if_icmp .ne 44, 3) := by decide +kernel
theorem dL_same_319 : decode cL_same 319 = .ok (.aload_n 0, 1) := by decide +kernel
theorem dL_same_320 : decode cL_same 320 = .ok (.iload_n 2, 1) := by decide +kernel
theorem dL_same_321 : decode cL_same 321 = .ok (.bipush 6, 2) := by decide +kernel
theorem dL_same_323 : decode cL_same 323 = .ok (.invokestatic 15, 3) := by decide +kernel
theorem dL_same_326 : decode cL_same 326 = .ok (.iload_n 2, 1) := by decide +kernel
theorem dL_same_327 : decode cL_same 327 = .ok (.bipush 18, 2) := by decide +kernel
theorem dL_same_329 : decode cL_same 329 = .ok (.ishr, 1) := by decide +kernel
theorem dL_same_330 : decode cL_same 330 = .ok (.bipush 15, 2) := by decide +kernel
theorem dL_same_332 : decode cL_same 332 = .ok (.iand, 1) := by decide +kernel
theorem dL_same_333 : decode cL_same 333 = .ok (.invokevirtual 69, 3) := by decide +kernel
theorem dL_same_336 : decode cL_same 336 = .ok (.aload_n 1, 1) := by decide +kernel
theorem dL_same_337 : decode cL_same 337 = .ok (.iload_n 2, 1) := by decide +kernel
theorem dL_same_338 : decode cL_same 338 = .ok (.bipush 6, 2) := by decide +kernel
theorem dL_same_340 : decode cL_same 340 = .ok (.invokestatic 15, 3) := by decide +kernel
theorem dL_same_343 : decode cL_same 343 = .ok (.iload_n 2, 1) := by decide +kernel
theorem dL_same_344 : decode cL_same 344 = .ok (.bipush 18, 2) := by decide +kernel
theorem dL_same_346 : decode cL_same 346 = .ok (.ishr, 1) := by decide +kernel
theorem dL_same_347 : decode cL_same 347 = .ok (.bipush 15, 2) := by decide +kernel
theorem dL_same_349 : decode cL_same 349 = .ok (.iand, 1) := by decide +kernel
theorem dL_same_350 : decode cL_same 350 = .ok (.invokevirtual 69, 3) := by decide +kernel
theorem dL_same_353 : decode cL_same 353 = .ok (.if_icmp .ne 7, 3) := by decide +kernel
theorem dL_same_356 : decode cL_same 356 = .ok (.iconst 1, 1) := by decide +kernel
theorem dL_same_357 : decode cL_same 357 = .ok (.goto 4, 3) := by decide +kernel
theorem dL_same_360 : decode cL_same 360 = .ok (.iconst 0, 1) := by decide +kernel
theorem dL_same_361 : decode cL_same 361 = .ok (.ireturn, 1) := by decide +kernel
theorem dL_sums_0 : decode cL_sums 0 = .ok (.aload_n 0, 1) := by decide +kernel
theorem dL_sums_1 : decode cL_sums 1 = .ok (.bipush 7, 2) := by decide +kernel
theorem dL_sums_3 : decode cL_sums 3 = .ok (.invokevirtual 38, 3) := by decide +kernel
theorem dL_sums_6 : decode cL_sums 6 = .ok (.istore_n 1, 1) := by decide +kernel
theorem dL_sums_7 : decode cL_sums 7 = .ok (.iconst 0, 1) := by decide +kernel
theorem dL_sums_8 : decode cL_sums 8 = .ok (.istore_n 2, 1) := by decide +kernel
theorem dL_sums_9 : decode cL_sums 9 = .ok (.iconst 0, 1) := by decide +kernel
theorem dL_sums_10 : decode cL_sums 10 = .ok (.istore_n 3, 1) := by decide +kernel
theorem dL_sums_11 : decode cL_sums 11 = .ok (.sipush (-999), 3) := by decide +kernel
theorem dL_sums_14 : decode cL_sums 14 = .ok (.istore 4, 2) := by decide +kernel
theorem dL_sums_16 : decode cL_sums 16 = .ok (.iconst 0, 1) := by decide +kernel
theorem dL_sums_17 : decode cL_sums 17 = .ok (.istore 5, 2) := by decide +kernel
theorem dL_sums_19 : decode cL_sums 19 = .ok (.iload 5, 2) := by decide +kernel
theorem dL_sums_21 : decode cL_sums 21 = .ok (.iload_n 1, 1) := by decide +kernel
theorem dL_sums_22 : decode cL_sums 22 = .ok (.if_icmp .ge 205, 3) := by decide +kernel
theorem dL_sums_25 : decode cL_sums 25 = .ok (.aload_n 0, 1) := by decide +kernel
theorem dL_sums_26 : decode cL_sums 26 = .ok (.iload 5, 2) := by decide +kernel
theorem dL_sums_28 : decode cL_sums 28 = .ok (.iconst 0, 1) := by decide +kernel
theorem dL_sums_29 : decode cL_sums 29 = .ok (.invokevirtual 28, 3) := by decide +kernel
theorem dL_sums_32 : decode cL_sums 32 = .ok (.istore 6, 2) := by decide +kernel
theorem dL_sums_34 : decode cL_sums 34 = .ok (.iconst 0, 1) := by decide +kernel
theorem dL_sums_35 : decode cL_sums 35 = .ok (.istore 7, 2) := by decide +kernel
theorem dL_sums_37 : decode cL_sums 37 = .ok (.iconst 0, 1) := by decide +kernel
theorem dL_sums_38 : decode cL_sums 38 = .ok (.istore 8, 2) := by decide +kernel
theorem dL_sums_40 : decode cL_sums 40 = .ok (.iload 8, 2) := by decide +kernel
theorem dL_sums_42 : decode cL_sums 42 = .ok (.bipush 6, 2) := by decide +kernel
theorem dL_sums_44 : decode cL_sums 44 = .ok (.if_icmp .ge 120, 3) := by decide +kernel
theorem dL_sums_47 : decode cL_sums 47 = .ok (.aload_n 0, 1) := by decide +kernel
theorem dL_sums_48 : decode cL_sums 48 = .ok (.iload 5, 2) := by decide +kernel
theorem dL_sums_50 : decode cL_sums 50 = .ok (.iload 8, 2) := by decide +kernel
theorem dL_sums_52 : decode cL_sums 52 = .ok (.iconst 0, 1) := by decide +kernel
theorem dL_sums_53 : decode cL_sums 53 = .ok (.invokevirtual 34, 3) := by decide +kernel
theorem dL_sums_56 : decode cL_sums 56 = .ok (.istore 9, 2) := by decide +kernel
theorem dL_sums_58 : decode cL_sums 58 = .ok (.iload 7, 2) := by decide +kernel
theorem dL_sums_60 : decode cL_sums 60 = .ok (.iload 9, 2) := by decide +kernel
theorem dL_sums_62 : decode cL_sums 62 = .ok (.ifCond .ge 7, 3) := by decide +kernel
theorem dL_sums_65 : decode cL_sums 65 = .ok (.iconst 0, 1) := by decide +kernel
theorem dL_sums_66 : decode cL_sums 66 = .ok (.goto 4, 3) := by decide +kernel
theorem dL_sums_69 : decode cL_sums 69 = .ok (.iconst 1, 1) := by decide +kernel
theorem dL_sums_70 : decode cL_sums 70 = .ok (.iadd, 1) := by decide +kernel
theorem dL_sums_71 : decode cL_sums 71 = .ok (.istore 7, 2) := by decide +kernel
theorem dL_sums_73 : decode cL_sums 73 = .ok (.iload 9, 2) := by decide +kernel
theorem dL_sums_75 : decode cL_sums 75 = .ok (.ifCond .lt 7, 3) := by decide +kernel
theorem dL_sums_78 : decode cL_sums 78 = .ok (.iconst 1, 1) := by decide +kernel
theorem dL_sums_79 : decode cL_sums 79 = .ok (.goto 4, 3) := by decide +kernel
theorem dL_sums_82 : decode cL_sums 82 = .ok (.iconst 0, 1) := by decide +kernel
theorem dL_sums_83 : decode cL_sums 83 = .ok (.aload_n 0, 1) := by decide +kernel
theorem dL_sums_84 : decode cL_sums 84 = .ok (.iload 5, 2) := by decide +kernel
theorem dL_sums_86 : decode cL_sums 86 = .ok (.iconst 1, 1) := by decide +kernel
theorem dL_sums_87 : decode cL_sums 87 = .ok (.invokevirtual 28, 3) := by decide +kernel
theorem dL_sums_90 : decode cL_sums 90 = .ok (.iload 8, 2) := by decide +kernel
theorem dL_sums_92 : decode cL_sums 92 = .ok (.ishr, 1) := by decide +kernel
theorem dL_sums_93 : decode cL_sums 93 = .ok (.iconst 1, 1) := by decide +kernel
theorem dL_sums_94 : decode cL_sums 94 = .ok (.iand, 1) := by decide +kernel
theorem dL_sums_95 : decode cL_sums 95 = .ok (.iconst 1, 1) := by decide +kernel
theorem dL_sums_96 : decode cL_sums 96 = .ok (.if_icmp .ne 7, 3) := by decide +kernel
theorem dL_sums_99 : decode cL_sums 99 = .ok (.iconst 1, 1) := by decide +kernel
theorem dL_sums_100 : decode cL_sums 100 = .ok (.goto 4, 3) := by decide +kernel
theorem dL_sums_103 : decode cL_sums 103 = .ok (.iconst 0, 1) := by decide +kernel
theorem dL_sums_104 : decode cL_sums 104 = .ok (.if_icmp .ne 52, 3) := by decide +kernel
theorem dL_sums_107 : decode cL_sums 107 = .ok (.iload 9, 2) := by decide +kernel
theorem dL_sums_109 : decode cL_sums 109 = .ok (.ifCond .lt 49, 3) := by decide +kernel
theorem dL_sums_112 : decode cL_sums 112 = .ok (.iload 9, 2) := by decide +kernel
theorem dL_sums_114 : decode cL_sums 114 = .ok (.aload_n 0, 1) := by decide +kernel
theorem dL_sums_115 : decode cL_sums 115 = .ok (.iload 8, 2) := by decide +kernel
theorem dL_sums_117 : decode cL_sums 117 = .ok (.iconst 0, 1) := by decide +kernel
theorem dL_sums_118 : decode cL_sums 118 = .ok (.invokevirtual 46, 3) := by decide +kernel
theorem dL_sums_121 : decode cL_sums 121 = .ok (.isub, 1) := by decide +kernel
theorem dL_sums_122 : decode cL_sums 122 = .ok (.bipush 100, 2) := by decide +kernel
theorem dL_sums_124 : decode cL_sums 124 = .ok (.iadd, 1) := by decide +kernel
theorem dL_sums_125 : decode cL_sums 125 = .ok (.iload 6, 2) := by decide +kernel
theorem dL_sums_127 : decode cL_sums 127 = .ok (.if_icmp .lt 29, 3) := by decide +kernel
theorem dL_sums_130 : decode cL_sums 130 = .ok (.iload 9, 2) := by decide +kernel
theorem dL_sums_132 : decode cL_sums 132 = .ok (.aload_n 0, 1) := by decide +kernel
theorem dL_sums_133 : decode cL_sums 133 = .ok (.iload 8, 2) := by decide +kernel
theorem dL_sums_135 : decode cL_sums 135 = .ok (.iconst 0, 1) := by decide +kernel
theorem dL_sums_136 : decode cL_sums 136 = .ok (.invokevirtual 46, 3) := by decide +kernel
theorem dL_sums_139 : decode cL_sums 139 = .ok (.isub, 1) := by decide +kernel
theorem dL_sums_140 : decode cL_sums 140 = .ok (.bipush 100, 2) := by decide +kernel
theorem dL_sums_142 : decode cL_sums 142 = .ok (.iadd, 1) := by decide +kernel
theorem dL_sums_143 : decode cL_sums 143 = .ok (.iload 6, 2) := by decide +kernel
theorem dL_sums_145 : decode cL_sums 145 = .ok (.aload_n 0, 1) := by decide +kernel
theorem dL_sums_146 : decode cL_sums 146 = .ok (.iload 5, 2) := by decide +kernel
theorem dL_sums_148 : decode cL_sums 148 = .ok (.iconst 4, 1) := by decide +kernel
theorem dL_sums_149 : decode cL_sums 149 = .ok (.invokevirtual 28, 3) := by decide +kernel
theorem dL_sums_152 : decode cL_sums 152 = .ok (.iadd, 1) := by decide +kernel
theorem dL_sums_153 : decode cL_sums 153 = .ok (.if_icmp .le 5, 3) := by decide +kernel
theorem dL_sums_156 : decode cL_sums 156 = .ok (.iconst 0, 1) := by decide +kernel
theorem dL_sums_157 : decode cL_sums 157 = .ok (.ireturn, 1) := by decide +kernel
theorem dL_sums_158 : decode cL_sums 158 = .ok (.iinc 8 1, 3) := by decide +kernel
theorem dL_sums_161 : decode cL_sums 161 = .ok (.goto (-121), 3) := by decide +kernel
theorem dL_sums_164 : decode cL_sums 164 = .ok (.iload 6, 2) := by decide +kernel
theorem dL_sums_166 : decode cL_sums 166 = .ok (.iload 4, 2) := by decide +kernel
theorem dL_sums_168 : decode cL_sums 168 = .ok (.if_icmp .le 29, 3) := by decide +kernel
theorem dL_sums_171 : decode cL_sums 171 = .ok (.aload_n 0, 1) := by decide +kernel
theorem dL_sums_172 : decode cL_sums 172 = .ok (.iload 5, 2) := by decide +kernel
theorem dL_sums_174 : decode cL_sums 174 = .ok (.iconst 2, 1) := by decide +kernel
theorem dL_sums_175 : decode cL_sums 175 = .ok (.invokevirtual 28, 3) := by decide +kernel
theorem dL_sums_178 : decode cL_sums 178 = .ok (.iload 7, 2) := by decide +kernel
theorem dL_sums_180 : decode cL_sums 180 = .ok (.aload_n 0, 1) := by decide +kernel
theorem dL_sums_181 : decode cL_sums 181 = .ok (.iload 5, 2) := by decide +kernel
theorem dL_sums_183 : decode cL_sums 183 = .ok (.iconst 3, 1) := by decide +kernel
theorem dL_sums_184 : decode cL_sums 184 = .ok (.invokevirtual 28, 3) := by decide +kernel
theorem dL_sums_187 : decode cL_sums 187 = .ok (.iadd, 1) := by decide +kernel
theorem dL_sums_188 : decode cL_sums 188 = .ok (.if_icmp .ne 9, 3) := by decide +kernel
theorem dL_sums_191 : decode cL_sums 191 = .ok (.iload 7, 2) := by decide +kernel
theorem dL_sums_193 : decode cL_sums 193 = .ok (.iconst 1, 1) := by decide +kernel
theorem dL_sums_194 : decode cL_sums 194 = .ok (.if_icmp .ge 5, 3) := by decide +kernel
theorem dL_sums_197 : decode cL_sums 197 = .ok (.iconst 0, 1) := by decide +kernel
theorem dL_sums_198 : decode cL_sums 198 = .ok (.ireturn, 1) := by decide +kernel
theorem dL_sums_199 : decode cL_sums 199 = .ok (.iload 6, 2) := by decide +kernel
theorem dL_sums_201 : decode cL_sums 201 = .ok (.aload_n 0, 1) := by decide +kernel
theorem dL_sums_202 : decode cL_sums 202 = .ok (.iload 5, 2) := by decide +kernel
theorem dL_sums_204 : decode cL_sums 204 = .ok (.iconst 4, 1) := by decide +kernel
theorem dL_sums_205 : decode cL_sums 205 = .ok (.invokevirtual 28, 3) := by decide +kernel
theorem dL_sums_208 : decode cL_sums 208 = .ok (.iadd, 1) := by decide +kernel
theorem dL_sums_209 : decode cL_sums 209 = .ok (.istore 4, 2) := by decide +kernel
theorem dL_sums_211 : decode cL_sums 211 = .ok (.iload_n 3, 1) := by decide +kernel
theorem dL_sums_212 : decode cL_sums 212 = .ok (.aload_n 0, 1) := by decide +kernel
theorem dL_sums_213 : decode cL_sums 213 = .ok (.iload 5, 2) := by decide +kernel
theorem dL_sums_215 : decode cL_sums 215 = .ok (.iconst 2, 1) := by decide +kernel
theorem dL_sums_216 : decode cL_sums 216 = .ok (.invokevirtual 28, 3) := by decide +kernel
theorem dL_sums_219 : decode cL_sums 219 = .ok (.iadd, 1) := by decide +kernel
theorem dL_sums_220 : decode cL_sums 220 = .ok (.istore_n 3, 1) := by decide +kernel
theorem dL_sums_221 : decode cL_sums 221 = .ok (.iinc 5 1, 3) := by decide +kernel
theorem dL_sums_224 : decode cL_sums 224 = .ok (.goto (-205), 3) := by decide +kernel
theorem dL_sums_227 : decode cL_sums 227 = .ok (.iconst 1, 1) := by decide +kernel
theorem dL_sums_228 : decode cL_sums 228 = .ok (.istore 5, 2) := by decide +kernel
theorem dL_sums_230 : decode cL_sums 230 = .ok (.iload 5, 2) := by decide +kernel
theorem dL_sums_232 : decode cL_sums 232 = .ok (.bipush 7, 2) := by decide +kernel
theorem dL_sums_234 : decode cL_sums 234 = .ok (.if_icmp .ge 18, 3) := by decide +kernel
theorem dL_sums_237 : decode cL_sums 237 = .ok (.iload_n 2, 1) := by decide +kernel
theorem dL_sums_238 : decode cL_sums 238 = .ok (.aload_n 0, 1) := by decide +kernel
theorem dL_sums_239 : decode cL_sums 239 = .ok (.iload 5, 2) := by decide +kernel
theorem dL_sums_241 : decode cL_sums 241 = .ok (.invokevirtual 72, 3) := by decide +kernel
theorem dL_sums_244 : decode cL_sums 244 = .ok (.iadd, 1) := by decide +kernel
theorem dL_sums_245 : decode cL_sums 245 = .ok (.istore_n 2, 1) := by decide +kernel
theorem dL_sums_246 : decode cL_sums 246 = .ok (.iinc 5 1, 3) := by decide +kernel
theorem dL_sums_249 : decode cL_sums 249 = .ok (.goto (-19), 3) := by decide +kernel
theorem dL_sums_252 : decode cL_sums 252 = .ok (.iload_n 2, 1) := by decide +kernel
theorem dL_sums_253 : decode cL_sums 253 = .ok (.iload_n 1, 1) := by decide +kernel
theorem dL_sums_254 : decode cL_sums 254 = .ok (.if_icmp .ne 85, 3) := by decide +kernel
theorem dL_sums_257 : decode cL_sums 257 = .ok (.iload_n 3, 1) := by decide +kernel
theorem dL_sums_258 : decode cL_sums 258 = .ok (.aload_n 0, 1) := by decide +kernel
theorem dL_sums_259 : decode cL_sums 259 = .ok (.bipush 9, 2) := by decide +kernel
theorem dL_sums_261 : decode cL_sums 261 = .ok (.invokevirtual 38, 3) := by decide +kernel
theorem dL_sums_264 : decode cL_sums 264 = .ok (.if_icmp .ne 75, 3) := by decide +kernel
theorem dL_sums_267 : decode cL_sums 267 = .ok (.aload_n 0, 1) := by decide +kernel
theorem dL_sums_268 : decode cL_sums 268 = .ok (.iconst 0, 1) := by decide +kernel
theorem dL_sums_269 : decode cL_sums 269 = .ok (.iconst 1, 1) := by decide +kernel
theorem dL_sums_270 : decode cL_sums 270 = .ok (.invokevirtual 66, 3) := by decide +kernel
theorem dL_sums_273 : decode cL_sums 273 = .ok (.iload_n 1, 1) := by decide +kernel
theorem dL_sums_274 : decode cL_sums 274 = .ok (.if_icmp .ne 65, 3) := by decide +kernel
theorem dL_sums_277 : decode cL_sums 277 = .ok (.aload_n 0, 1) := by decide +kernel
theorem dL_sums_278 : decode cL_sums 278 = .ok (.iconst 0, 1) := by decide +kernel
theorem dL_sums_279 : decode cL_sums 279 = .ok (.iconst 2, 1) := by decide +kernel
theorem dL_sums_280 : decode cL_sums 280 = .ok (.invokevirtual 66, 3) := by decide +kernel
theorem dL_sums_283 : decode cL_sums 283 = .ok (.iload_n 1, 1) := by decide +kernel
theorem dL_sums_284 : decode cL_sums 284 = .ok (.if_icmp .ne 55, 3) := by decide +kernel
theorem dL_sums_287 : decode cL_sums 287 = .ok (.aload_n 0, 1) := by decide +kernel
theorem dL_sums_288 : decode cL_sums 288 = .ok (.iconst 4, 1) := by decide +kernel
theorem dL_sums_289 : decode cL_sums 289 = .ok (.invokevirtual 38, 3) := by decide +kernel
theorem dL_sums_292 : decode cL_sums 292 = .ok (.aload_n 0, 1) := by decide +kernel
theorem dL_sums_293 : decode cL_sums 293 = .ok (.iconst 5, 1) := by decide +kernel
theorem dL_sums_294 : decode cL_sums 294 = .ok (.invokevirtual 38, 3) := by decide +kernel
theorem dL_sums_297 : decode cL_sums 297 = .ok (.iadd, 1) := by decide +kernel
theorem dL_sums_298 : decode cL_sums 298 = .ok (.aload_n 0, 1) := by decide +kernel
theorem dL_sums_299 : decode cL_sums 299 = .ok (.iconst 3, 1) := by decide +kernel
theorem dL_sums_300 : decode cL_sums 300 = .ok (.invokevirtual 38, 3) := by decide +kernel
theorem dL_sums_303 : decode cL_sums 303 = .ok (.if_icmp .ne 36, 3) := by decide +kernel
theorem dL_sums_306 : decode cL_sums 306 = .ok (.aload_n 0, 1) := by decide +kernel
theorem dL_sums_307 : decode cL_sums 307 = .ok (.iconst 0, 1) := by decide +kernel
theorem dL_sums_308 : decode cL_sums 308 = .ok (.invokevirtual 38, 3) := by decide +kernel
theorem dL_sums_311 : decode cL_sums 311 = .ok (.aload_n 0, 1) := by decide +kernel
theorem dL_sums_312 : decode cL_sums 312 = .ok (.iconst 1, 1) := by decide +kernel
theorem dL_sums_313 : decode cL_sums 313 = .ok (.invokevirtual 38, 3) := by decide +kernel
theorem dL_sums_316 : decode cL_sums 316 = .ok (.aload_n 0, 1) := by decide +kernel
theorem dL_sums_317 : decode cL_sums 317 = .ok (.iconst 2, 1) := by decide +kernel
theorem dL_sums_318 : decode cL_sums 318 = .ok (.invokevirtual 38, 3) := by decide +kernel
theorem dL_sums_321 : decode cL_sums 321 = .ok (.iadd, 1) := by decide +kernel
theorem dL_sums_322 : decode cL_sums 322 = .ok (.if_icmp .ne 17, 3) := by decide +kernel
theorem dL_sums_325 : decode cL_sums 325 = .ok (.aload_n 0, 1) := by decide +kernel
theorem dL_sums_326 : decode cL_sums 326 = .ok (.iload_n 1, 1) := by decide +kernel
theorem dL_sums_327 : decode cL_sums 327 = .ok (.iconst 0, 1) := by decide +kernel
theorem dL_sums_328 : decode cL_sums 328 = .ok (.invokevirtual 28, 3) := by decide +kernel
theorem dL_sums_331 : decode cL_sums 331 = .ok (.iconst (-1), 1) := by decide +kernel
theorem dL_sums_332 : decode cL_sums 332 = .ok (.if_icmp .ne 7, 3) := by decide +kernel
theorem dL_sums_335 : decode cL_sums 335 = .ok (.iconst 1, 1) := by decide +kernel
theorem dL_sums_336 : decode cL_sums 336 = .ok (.goto 4, 3) := by decide +kernel
theorem dL_sums_339 : decode cL_sums 339 = .ok (.iconst 0, 1) := by decide +kernel
theorem dL_sums_340 : decode cL_sums 340 = .ok (.ireturn, 1) := by decide +kernel
theorem dL_law_0 : decode cL_law 0 = .ok (.new 20, 3) := by decide +kernel
theorem dL_law_3 : decode cL_law 3 = .ok (.dup, 1) := by decide +kernel
theorem dL_law_4 : decode cL_law 4 = .ok (.invokespecial 75, 3) := by decide +kernel
theorem dL_law_7 : decode cL_law 7 = .ok (.astore_n 1, 1) := by decide +kernel
theorem dL_law_8 : decode cL_law 8 = .ok (.new 20, 3) := by decide +kernel
theorem dL_law_11 : decode cL_law 11 = .ok (.dup, 1) := by decide +kernel
theorem dL_law_12 : decode cL_law 12 = .ok (.invokespecial 75, 3) := by decide +kernel
theorem dL_law_15 : decode cL_law 15 = .ok (.astore_n 2, 1) := by decide +kernel
theorem dL_law_16 : decode cL_law 16 = .ok (.bipush 48, 2) := by decide +kernel
theorem dL_law_18 : decode cL_law 18 = .ok (.newarray .int, 2) := by decide +kernel
theorem dL_law_20 : decode cL_law 20 = .ok (.astore_n 3, 1) := by decide +kernel
theorem dL_law_21 : decode cL_law 21 = .ok (.bipush 48, 2) := by decide +kernel
theorem dL_law_23 : decode cL_law 23 = .ok (.newarray .int, 2) := by decide +kernel
theorem dL_law_25 : decode cL_law 25 = .ok (.astore 4, 2) := by decide +kernel
theorem dL_law_27 : decode cL_law 27 = .ok (.bipush 48, 2) := by decide +kernel
theorem dL_law_29 : decode cL_law 29 = .ok (.newarray .int, 2) := by decide +kernel
theorem dL_law_31 : decode cL_law 31 = .ok (.astore 5, 2) := by decide +kernel
theorem dL_law_33 : decode cL_law 33 = .ok (.bipush 48, 2) := by decide +kernel
theorem dL_law_35 : decode cL_law 35 = .ok (.newarray .int, 2) := by decide +kernel
theorem dL_law_37 : decode cL_law 37 = .ok (.astore 6, 2) := by decide +kernel
theorem dL_law_39 : decode cL_law 39 = .ok (.iconst 0, 1) := by decide +kernel
theorem dL_law_40 : decode cL_law 40 = .ok (.istore 7, 2) := by decide +kernel
theorem dL_law_42 : decode cL_law 42 = .ok (.iload 7, 2) := by decide +kernel
theorem dL_law_44 : decode cL_law 44 = .ok (.iconst 2, 1) := by decide +kernel
theorem dL_law_45 : decode cL_law 45 = .ok (.if_icmp .ge 678, 3) := by decide +kernel
theorem dL_law_48 : decode cL_law 48 = .ok (.aload_n 0, 1) := by decide +kernel
theorem dL_law_49 : decode cL_law 49 = .ok (.bipush 60, 2) := by decide +kernel
theorem dL_law_51 : decode cL_law 51 = .ok (.iload 7, 2) := by decide +kernel
theorem dL_law_53 : decode cL_law 53 = .ok (.imul, 1) := by decide +kernel
theorem dL_law_54 : decode cL_law 54 = .ok (.invokestatic 9, 3) := by decide +kernel
theorem dL_law_57 : decode cL_law 57 = .ok (.bipush 60, 2) := by decide +kernel
theorem dL_law_59 : decode cL_law 59 = .ok (.invokestatic 15, 3) := by decide +kernel
theorem dL_law_62 : decode cL_law 62 = .ok (.istore 8, 2) := by decide +kernel
theorem dL_law_64 : decode cL_law 64 = .ok (.aload_n 1, 1) := by decide +kernel
theorem dL_law_65 : decode cL_law 65 = .ok (.invokevirtual 76, 3) := by decide +kernel
theorem dL_law_68 : decode cL_law 68 = .ok (.ifCond .lt 74, 3) := by decide +kernel
theorem dL_law_71 : decode cL_law 71 = .ok (.aload_n 2, 1) := by decide +kernel
theorem dL_law_72 : decode cL_law 72 = .ok (.invokevirtual 76, 3) := by decide +kernel
theorem dL_law_75 : decode cL_law 75 = .ok (.ifCond .lt 67, 3) := by decide +kernel
theorem dL_law_78 : decode cL_law 78 = .ok (.aload_n 1, 1) := by decide +kernel
theorem dL_law_79 : decode cL_law 79 = .ok (.aload_n 2, 1) := by decide +kernel
theorem dL_law_80 : decode cL_law 80 = .ok (.aload_n 0, 1) := by decide +kernel
theorem dL_law_81 : decode cL_law 81 = .ok (.bipush 60, 2) := by decide +kernel
theorem dL_law_83 : decode cL_law 83 = .ok (.iload 7, 2) := by decide +kernel
theorem dL_law_85 : decode cL_law 85 = .ok (.imul, 1) := by decide +kernel
theorem dL_law_86 : decode cL_law 86 = .ok (.iconst 1, 1) := by decide +kernel
theorem dL_law_87 : decode cL_law 87 = .ok (.iadd, 1) := by decide +kernel
theorem dL_law_88 : decode cL_law 88 = .ok (.iload 8, 2) := by decide +kernel
theorem dL_law_90 : decode cL_law 90 = .ok (.invokestatic 80, 3) := by decide +kernel
theorem dL_law_93 : decode cL_law 93 = .ok (.ifCond .eq 49, 3) := by decide +kernel
theorem dL_law_96 : decode cL_law 96 = .ok (.aload_n 1, 1) := by decide +kernel
theorem dL_law_97 : decode cL_law 97 = .ok (.bipush 11, 2) := by decide +kernel
theorem dL_law_99 : decode cL_law 99 = .ok (.invokevirtual 38, 3) := by decide +kernel
theorem dL_law_102 : decode cL_law 102 = .ok (.sipush 1000, 3) := by decide +kernel
theorem dL_law_105 : decode cL_law 105 = .ok (.if_icmp .ne 37, 3) := by decide +kernel
theorem dL_law_108 : decode cL_law 108 = .ok (.aload_n 1, 1) := by decide +kernel
theorem dL_law_109 : decode cL_law 109 = .ok (.iconst 0, 1) := by decide +kernel
theorem dL_law_110 : decode cL_law 110 = .ok (.iconst 0, 1) := by decide +kernel
theorem dL_law_111 : decode cL_law 111 = .ok (.invokevirtual 52, 3) := by decide +kernel
theorem dL_law_114 : decode cL_law 114 = .ok (.ldc2_w 84, 3) := by decide +kernel
theorem dL_law_117 : decode cL_law 117 = .ok (.lcmp, 1) := by decide +kernel
theorem dL_law_118 : decode cL_law 118 = .ok (.ifCond .ne 24, 3) := by decide +kernel
theorem dL_law_121 : decode cL_law 121 = .ok (.aload_n 1, 1) := by decide +kernel
theorem dL_law_122 : decode cL_law 122 = .ok (.iconst 0, 1) := by decide +kernel
theorem dL_law_123 : decode cL_law 123 = .ok (.invokevirtual 49, 3) := by decide +kernel
theorem dL_law_126 : decode cL_law 126 = .ok (.bipush (-3), 2) := by decide +kernel
theorem dL_law_128 : decode cL_law 128 = .ok (.if_icmp .ne 14, 3) := by decide +kernel
theorem dL_law_131 : decode cL_law 131 = .ok (.aload_n 1, 1) := by decide +kernel
theorem dL_law_132 : decode cL_law 132 = .ok (.iconst 0, 1) := by decide +kernel
theorem dL_law_133 : decode cL_law 133 = .ok (.iconst 0, 1) := by decide +kernel
theorem dL_law_134 : decode cL_law 134 = .ok (.invokevirtual 63, 3) := by decide +kernel
theorem dL_law_137 : decode cL_law 137 = .ok (.bipush (-3), 2) := by decide +kernel
theorem dL_law_139 : decode cL_law 139 = .ok (.if_icmp .eq 5, 3) := by decide +kernel
theorem dL_law_142 : decode cL_law 142 = .ok (.iconst 0, 1) := by decide +kernel
theorem dL_law_143 : decode cL_law 143 = .ok (.ireturn, 1) := by decide +kernel
theorem dL_law_144 : decode cL_law 144 = .ok (.bipush 20, 2) := by decide +kernel
theorem dL_law_146 : decode cL_law 146 = .ok (.aload_n 0, 1) := by decide +kernel
theorem dL_law_147 : decode cL_law 147 = .ok (.bipush 60, 2) := by decide +kernel
theorem dL_law_149 : decode cL_law 149 = .ok (.iload 7, 2) := by decide +kernel
theorem dL_law_151 : decode cL_law 151 = .ok (.imul, 1) := by decide +kernel
theorem dL_law_152 : decode cL_law 152 = .ok (.bipush 8, 2) := by decide +kernel
theorem dL_law_154 : decode cL_law 154 = .ok (.iadd, 1) := by decide +kernel
theorem dL_law_155 : decode cL_law 155 = .ok (.invokestatic 9, 3) := by decide +kernel
theorem dL_law_158 : decode cL_law 158 = .ok (.bipush 28, 2) := by decide +kernel
theorem dL_law_160 : decode cL_law 160 = .ok (.invokestatic 15, 3) := by decide +kernel
theorem dL_law_163 : decode cL_law 163 = .ok (.iadd, 1) := by decide +kernel
theorem dL_law_164 : decode cL_law 164 = .ok (.istore 9, 2) := by decide +kernel
theorem dL_law_166 : decode cL_law 166 = .ok (.iconst 0, 1) := by decide +kernel
theorem dL_law_167 : decode cL_law 167 = .ok (.istore 10, 2) := by decide +kernel
theorem dL_law_169 : decode cL_law 169 = .ok (.iconst 0, 1) := by decide +kernel
theorem dL_law_170 : decode cL_law 170 = .ok (.istore 11, 2) := by decide +kernel
theorem dL_law_172 : decode cL_law 172 = .ok (.iload 11, 2) := by decide +kernel
theorem dL_law_174 : decode cL_law 174 = .ok (.iload 9, 2) := by decide +kernel
theorem dL_law_176 : decode cL_law 176 = .ok (.if_icmp .ge 129, 3) := by decide +kernel
theorem dL_law_179 : decode cL_law 179 = .ok (.aload_n 0, 1) := by decide +kernel
theorem dL_law_180 : decode cL_law 180 = .ok (.bipush 60, 2) := by decide +kernel
theorem dL_law_182 : decode cL_law 182 = .ok (.iload 7, 2) := by decide +kernel
theorem dL_law_184 : decode cL_law 184 = .ok (.imul, 1) := by decide +kernel
theorem dL_law_185 : decode cL_law 185 = .ok (.bipush 10, 2) := by decide +kernel
theorem dL_law_187 : decode cL_law 187 = .ok (.iadd, 1) := by decide +kernel
theorem dL_law_188 : decode cL_law 188 = .ok (.iload 11, 2) := by decide +kernel
theorem dL_law_190 : decode cL_law 190 = .ok (.iadd, 1) := by decide +kernel
theorem dL_law_191 : decode cL_law 191 = .ok (.invokestatic 9, 3) := by decide +kernel
theorem dL_law_194 : decode cL_law 194 = .ok (.istore 12, 2) := by decide +kernel
theorem dL_law_196 : decode cL_law 196 = .ok (.iload 10, 2) := by decide +kernel
theorem dL_law_198 : decode cL_law 198 = .ok (.iload 12, 2) := by decide +kernel
theorem dL_law_200 : decode cL_law 200 = .ok (.iconst 3, 1) := by decide +kernel
theorem dL_law_201 : decode cL_law 201 = .ok (.iand, 1) := by decide +kernel
theorem dL_law_202 : decode cL_law 202 = .ok (.ifCond .ne 13, 3) := by decide +kernel
theorem dL_law_205 : decode cL_law 205 = .ok (.iload 12, 2) := by decide +kernel
theorem dL_law_207 : decode cL_law 207 = .ok (.iconst 2, 1) := by decide +kernel
theorem dL_law_208 : decode cL_law 208 = .ok (.ishr, 1) := by decide +kernel
theorem dL_law_209 : decode cL_law 209 = .ok (.bipush 31, 2) := by decide +kernel
theorem dL_law_211 : decode cL_law 211 = .ok (.iand, 1) := by decide +kernel
theorem dL_law_212 : decode cL_law 212 = .ok (.goto 9, 3) := by decide +kernel
theorem dL_law_215 : decode cL_law 215 = .ok (.iload 12, 2) := by decide +kernel
theorem dL_law_217 : decode cL_law 217 = .ok (.iconst 2, 1) := by decide +kernel
theorem dL_law_218 : decode cL_law 218 = .ok (.ishr, 1) := by decide +kernel
theorem dL_law_219 : decode cL_law 219 = .ok (.iconst 3, 1) := by decide +kernel
theorem dL_law_220 : decode cL_law 220 = .ok (.iand, 1) := by decide +kernel
theorem dL_law_221 : decode cL_law 221 = .ok (.iadd, 1) := by decide +kernel
theorem dL_law_222 : decode cL_law 222 = .ok (.istore 10, 2) := by decide +kernel
theorem dL_law_224 : decode cL_law 224 = .ok (.aload_n 3, 1) := by decide +kernel
theorem dL_law_225 : decode cL_law 225 = .ok (.iload 11, 2) := by decide +kernel
theorem dL_law_227 : decode cL_law 227 = .ok (.iload 12, 2) := by decide +kernel
theorem dL_law_229 : decode cL_law 229 = .ok (.bipush 7, 2) := by decide +kernel
theorem dL_law_231 : decode cL_law 231 = .ok (.ishr, 1) := by decide +kernel
theorem dL_law_232 : decode cL_law 232 = .ok (.bipush 6, 2) := by decide +kernel
theorem dL_law_234 : decode cL_law 234 = .ok (.invokestatic 15, 3) := by decide +kernel
theorem dL_law_237 : decode cL_law 237 = .ok (.iastore, 1) := by decide +kernel
theorem dL_law_238 : decode cL_law 238 = .ok (.aload 4, 2) := by decide +kernel
theorem dL_law_240 : decode cL_law 240 = .ok (.iload 11, 2) := by decide +kernel
theorem dL_law_242 : decode cL_law 242 = .ok (.iload 10, 2) := by decide +kernel
theorem dL_law_244 : decode cL_law 244 = .ok (.iastore, 1) := by decide +kernel
theorem dL_law_245 : decode cL_law 245 = .ok (.aload 5, 2) := by decide +kernel
theorem dL_law_247 : decode cL_law 247 = .ok (.iload 11, 2) := by decide +kernel
theorem dL_law_249 : decode cL_law 249 = .ok (.iload 12, 2) := by decide +kernel
theorem dL_law_251 : decode cL_law 251 = .ok (.bipush 12, 2) := by decide +kernel
theorem dL_law_253 : decode cL_law 253 = .ok (.ishr, 1) := by decide +kernel
theorem dL_law_254 : decode cL_law 254 = .ok (.bipush 15, 2) := by decide +kernel
theorem dL_law_256 : decode cL_law 256 = .ok (.iand, 1) := by decide +kernel
theorem dL_law_257 : decode cL_law 257 = .ok (.iastore, 1) := by decide +kernel
theorem dL_law_258 : decode cL_law 258 = .ok (.aload 6, 2) := by decide +kernel
theorem dL_law_260 : decode cL_law 260 = .ok (.iload 11, 2) := by decide +kernel
theorem dL_law_262 : decode cL_law 262 = .ok (.iload 10, 2) := by decide +kernel
theorem dL_law_264 : decode cL_law 264 = .ok (.iload 12, 2) := by decide +kernel
theorem dL_law_266 : decode cL_law 266 = .ok (.bipush 16, 2) := by decide +kernel
theorem dL_law_268 : decode cL_law 268 = .ok (.ishr, 1) := by decide +kernel
theorem dL_law_269 : decode cL_law 269 = .ok (.iload 8, 2) := by decide +kernel
theorem dL_law_271 : decode cL_law 271 = .ok (.iconst 1, 1) := by decide +kernel
theorem dL_law_272 : decode cL_law 272 = .ok (.iadd, 1) := by decide +kernel
theorem dL_law_273 : decode cL_law 273 = .ok (.invokestatic 15, 3) := by decide +kernel
theorem dL_law_276 : decode cL_law 276 = .ok (.iadd, 1) := by decide +kernel
theorem dL_law_277 : decode cL_law 277 = .ok (.iastore, 1) := by decide +kernel
theorem dL_law_278 : decode cL_law 278 = .ok (.aload_n 1, 1) := by decide +kernel
theorem dL_law_279 : decode cL_law 279 = .ok (.aload_n 3, 1) := by decide +kernel
theorem dL_law_280 : decode cL_law 280 = .ok (.iload 11, 2) := by decide +kernel
theorem dL_law_282 : decode cL_law 282 = .ok (.iaload, 1) := by decide +kernel
theorem dL_law_283 : decode cL_law 283 = .ok (.iload 10, 2) := by decide +kernel
theorem dL_law_285 : decode cL_law 285 = .ok (.aload 5, 2) := by decide +kernel
theorem dL_law_287 : decode cL_law 287 = .ok (.iload 11, 2) := by decide +kernel
theorem dL_law_289 : decode cL_law 289 = .ok (.iaload, 1) := by decide +kernel
theorem dL_law_290 : decode cL_law 290 = .ok (.invokevirtual 86, 3) := by decide +kernel
theorem dL_law_293 : decode cL_law 293 = .ok (.iconst 1, 1) := by decide +kernel
theorem dL_law_294 : decode cL_law 294 = .ok (.if_icmp .eq 5, 3) := by decide +kernel
theorem dL_law_297 : decode cL_law 297 = .ok (.iconst 0, 1) := by decide +kernel
theorem dL_law_298 : decode cL_law 298 = .ok (.ireturn, 1) := by decide +kernel
theorem dL_law_299 : decode cL_law 299 = .ok (.iinc 11 1, 3) := by decide +kernel
theorem dL_law_302 : decode cL_law 302 = .ok (.goto (-130), 3) := by decide +kernel
theorem dL_law_305 : decode cL_law 305 = .ok (.aload_n 1, 1) := by decide +kernel
theorem dL_law_306 : decode cL_law 306 = .ok (.invokevirtual 89, 3) := by decide +kernel
theorem dL_law_309 : decode cL_law 309 = .ok (.ifCond .lt 33, 3) := by decide +kernel
theorem dL_law_312 : decode cL_law 312 = .ok (.aload_n 1, 1) := by decide +kernel
theorem dL_law_313 : decode cL_law 313 = .ok (.invokevirtual 89, 3) := by decide +kernel
theorem dL_law_316 : decode cL_law 316 = .ok (.bipush (-3), 2) := by decide +kernel
theorem dL_law_318 : decode cL_law 318 = .ok (.if_icmp .ne 24, 3) := by decide +kernel
theorem dL_law_321 : decode cL_law 321 = .ok (.aload_n 1, 1) := by decide +kernel
theorem dL_law_322 : decode cL_law 322 = .ok (.iconst 0, 1) := by decide +kernel
theorem dL_law_323 : decode cL_law 323 = .ok (.sipush 9999, 3) := by decide +kernel
theorem dL_law_326 : decode cL_law 326 = .ok (.iconst 0, 1) := by decide +kernel
theorem dL_law_327 : decode cL_law 327 = .ok (.invokevirtual 86, 3) := by decide +kernel
theorem dL_law_330 : decode cL_law 330 = .ok (.bipush (-3), 2) := by decide +kernel
theorem dL_law_332 : decode cL_law 332 = .ok (.if_icmp .ne 10, 3) := by decide +kernel
theorem dL_law_335 : decode cL_law 335 = .ok (.aload_n 1, 1) := by decide +kernel
theorem dL_law_336 : decode cL_law 336 = .ok (.invokestatic 92, 3) := by decide +kernel
theorem dL_law_339 : decode cL_law 339 = .ok (.ifCond .ne 5, 3) := by decide +kernel
theorem dL_law_342 : decode cL_law 342 = .ok (.iconst 0, 1) := by decide +kernel
theorem dL_law_343 : decode cL_law 343 = .ok (.ireturn, 1) := by decide +kernel
theorem dL_law_344 : decode cL_law 344 = .ok (.iconst 0, 1) := by decide +kernel
theorem dL_law_345 : decode cL_law 345 = .ok (.istore 11, 2) := by decide +kernel
theorem dL_law_347 : decode cL_law 347 = .ok (.iconst 0, 1) := by decide +kernel
theorem dL_law_348 : decode cL_law 348 = .ok (.istore 12, 2) := by decide +kernel
theorem dL_law_350 : decode cL_law 350 = .ok (.iload 11, 2) := by decide +kernel
theorem dL_law_352 : decode cL_law 352 = .ok (.iload 9, 2) := by decide +kernel
theorem dL_law_354 : decode cL_law 354 = .ok (.if_icmp .ge 146, 3) := by decide +kernel
theorem dL_law_357 : decode cL_law 357 = .ok (.iconst (-1), 1) := by decide +kernel
theorem dL_law_358 : decode cL_law 358 = .ok (.istore 13, 2) := by decide +kernel
theorem dL_law_360 : decode cL_law 360 = .ok (.iconst 0, 1) := by decide +kernel
theorem dL_law_361 : decode cL_law 361 = .ok (.istore 14, 2) := by decide +kernel
theorem dL_law_363 : decode cL_law 363 = .ok (.iload 14, 2) := by decide +kernel
theorem dL_law_365 : decode cL_law 365 = .ok (.iload 9, 2) := by decide +kernel
theorem dL_law_367 : decode cL_law 367 = .ok (.if_icmp .ge 46, 3) := by decide +kernel
theorem dL_law_370 : decode cL_law 370 = .ok (.aload 6, 2) := by decide +kernel
theorem dL_law_372 : decode cL_law 372 = .ok (.iload 14, 2) := by decide +kernel
theorem dL_law_374 : decode cL_law 374 = .ok (.iaload, 1) := by decide +kernel
theorem dL_law_375 : decode cL_law 375 = .ok (.ldc 96, 2) := by decide +kernel
theorem dL_law_377 : decode cL_law 377 = .ok (.if_icmp .ge 26, 3) := by decide +kernel
theorem dL_law_380 : decode cL_law 380 = .ok (.iload 13, 2) := by decide +kernel
theorem dL_law_382 : decode cL_law 382 = .ok (.ifCond .lt 16, 3) := by decide +kernel
theorem dL_law_385 : decode cL_law 385 = .ok (.aload 6, 2) := by decide +kernel
theorem dL_law_387 : decode cL_law 387 = .ok (.iload 14, 2) := by decide +kernel
theorem dL_law_389 : decode cL_law 389 = .ok (.iaload, 1) := by decide +kernel
theorem dL_law_390 : decode cL_law 390 = .ok (.aload 6, 2) := by decide +kernel
theorem dL_law_392 : decode cL_law 392 = .ok (.iload 13, 2) := by decide +kernel
theorem dL_law_394 : decode cL_law 394 = .ok (.iaload, 1) := by decide +kernel
theorem dL_law_395 : decode cL_law 395 = .ok (.if_icmp .ge 8, 3) := by decide +kernel
theorem dL_law_398 : decode cL_law 398 = .ok (.iload 14, 2) := by decide +kernel
theorem dL_law_400 : decode cL_law 400 = .ok (.goto 5, 3) := by decide +kernel
theorem dL_law_403 : decode cL_law 403 = .ok (.iload 13, 2) := by decide +kernel
theorem dL_law_405 : decode cL_law 405 = .ok (.istore 13, 2) := by decide +kernel
theorem dL_law_407 : decode cL_law 407 = .ok (.iinc 14 1, 3) := by decide +kernel
theorem dL_law_410 : decode cL_law 410 = .ok (.goto (-47), 3) := by decide +kernel
theorem dL_law_413 : decode cL_law 413 = .ok (.aload 6, 2) := by decide +kernel
theorem dL_law_415 : decode cL_law 415 = .ok (.iload 13, 2) := by decide +kernel
theorem dL_law_417 : decode cL_law 417 = .ok (.ldc 96, 2) := by decide +kernel
theorem dL_law_419 : decode cL_law 419 = .ok (.iastore, 1) := by decide +kernel
theorem dL_law_420 : decode cL_law 420 = .ok (.aload_n 2, 1) := by decide +kernel
theorem dL_law_421 : decode cL_law 421 = .ok (.aload_n 3, 1) := by decide +kernel
theorem dL_law_422 : decode cL_law 422 = .ok (.iload 13, 2) := by decide +kernel
theorem dL_law_424 : decode cL_law 424 = .ok (.iaload, 1) := by decide +kernel
theorem dL_law_425 : decode cL_law 425 = .ok (.aload 4, 2) := by decide +kernel
theorem dL_law_427 : decode cL_law 427 = .ok (.iload 13, 2) := by decide +kernel
theorem dL_law_429 : decode cL_law 429 = .ok (.iaload, 1) := by decide +kernel
theorem dL_law_430 : decode cL_law 430 = .ok (.aload 5, 2) := by decide +kernel
theorem dL_law_432 : decode cL_law 432 = .ok (.iload 13, 2) := by decide +kernel
theorem dL_law_434 : decode cL_law 434 = .ok (.iaload, 1) := by decide +kernel
theorem dL_law_435 : decode cL_law 435 = .ok (.invokevirtual 86, 3) := by decide +kernel
theorem dL_law_438 : decode cL_law 438 = .ok (.iconst 1, 1) := by decide +kernel
theorem dL_law_439 : decode cL_law 439 = .ok (.if_icmp .eq 5, 3) := by decide +kernel
theorem dL_law_442 : decode cL_law 442 = .ok (.iconst 0, 1) := by decide +kernel
theorem dL_law_443 : decode cL_law 443 = .ok (.ireturn, 1) := by decide +kernel
theorem dL_law_444 : decode cL_law 444 = .ok (.iinc 11 1, 3) := by decide +kernel
theorem dL_law_447 : decode cL_law 447 = .ok (.aload_n 2, 1) := by decide +kernel
theorem dL_law_448 : decode cL_law 448 = .ok (.bipush 7, 2) := by decide +kernel
theorem dL_law_450 : decode cL_law 450 = .ok (.invokevirtual 38, 3) := by decide +kernel
theorem dL_law_453 : decode cL_law 453 = .ok (.istore 14, 2) := by decide +kernel
theorem dL_law_455 : decode cL_law 455 = .ok (.iload 14, 2) := by decide +kernel
theorem dL_law_457 : decode cL_law 457 = .ok (.iload 12, 2) := by decide +kernel
theorem dL_law_459 : decode cL_law 459 = .ok (.if_icmp .ge 5, 3) := by decide +kernel
theorem dL_law_462 : decode cL_law 462 = .ok (.iconst 0, 1) := by decide +kernel
theorem dL_law_463 : decode cL_law 463 = .ok (.ireturn, 1) := by decide +kernel
theorem dL_law_464 : decode cL_law 464 = .ok (.iload 12, 2) := by decide +kernel
theorem dL_law_466 : decode cL_law 466 = .ok (.istore 15, 2) := by decide +kernel
theorem dL_law_468 : decode cL_law 468 = .ok (.iload 15, 2) := by decide +kernel
theorem dL_law_470 : decode cL_law 470 = .ok (.iload 14, 2) := by decide +kernel
theorem dL_law_472 : decode cL_law 472 = .ok (.if_icmp .ge 21, 3) := by decide +kernel
theorem dL_law_475 : decode cL_law 475 = .ok (.aload_n 2, 1) := by decide +kernel
theorem dL_law_476 : decode cL_law 476 = .ok (.aload_n 1, 1) := by decide +kernel
theorem dL_law_477 : decode cL_law 477 = .ok (.iload 15, 2) := by decide +kernel
theorem dL_law_479 : decode cL_law 479 = .ok (.invokestatic 42, 3) := by decide +kernel
theorem dL_law_482 : decode cL_law 482 = .ok (.ifCond .ne 5, 3) := by decide +kernel
theorem dL_law_485 : decode cL_law 485 = .ok (.iconst 0, 1) := by decide +kernel
theorem dL_law_486 : decode cL_law 486 = .ok (.ireturn, 1) := by decide +kernel
theorem dL_law_487 : decode cL_law 487 = .ok (.iinc 15 1, 3) := by decide +kernel
theorem dL_law_490 : decode cL_law 490 = .ok (.goto (-22), 3) := by decide +kernel
theorem dL_law_493 : decode cL_law 493 = .ok (.iload 14, 2) := by decide +kernel
theorem dL_law_495 : decode cL_law 495 = .ok (.istore 12, 2) := by decide +kernel
theorem dL_law_497 : decode cL_law 497 = .ok (.goto (-147), 3) := by decide +kernel
theorem dL_law_500 : decode cL_law 500 = .ok (.aload_n 2, 1) := by decide +kernel
theorem dL_law_501 : decode cL_law 501 = .ok (.bipush 11, 2) := by decide +kernel
theorem dL_law_503 : decode cL_law 503 = .ok (.invokevirtual 38, 3) := by decide +kernel
theorem dL_law_506 : decode cL_law 506 = .ok (.sipush 2000, 3) := by decide +kernel
theorem dL_law_509 : decode cL_law 509 = .ok (.isub, 1) := by decide +kernel
theorem dL_law_510 : decode cL_law 510 = .ok (.iconst 1, 1) := by decide +kernel
theorem dL_law_511 : decode cL_law 511 = .ok (.isub, 1) := by decide +kernel
theorem dL_law_512 : decode cL_law 512 = .ok (.istore 13, 2) := by decide +kernel
theorem dL_law_514 : decode cL_law 514 = .ok (.aload_n 2, 1) := by decide +kernel
theorem dL_law_515 : decode cL_law 515 = .ok (.bipush 7, 2) := by decide +kernel
theorem dL_law_517 : decode cL_law 517 = .ok (.invokevirtual 38, 3) := by decide +kernel
theorem dL_law_520 : decode cL_law 520 = .ok (.istore 14, 2) := by decide +kernel
theorem dL_law_522 : decode cL_law 522 = .ok (.iload 13, 2) := by decide +kernel
theorem dL_law_524 : decode cL_law 524 = .ok (.ifCond .lt 55, 3) := by decide +kernel
theorem dL_law_527 : decode cL_law 527 = .ok (.aload_n 2, 1) := by decide +kernel
theorem dL_law_528 : decode cL_law 528 = .ok (.iconst 0, 1) := by decide +kernel
theorem dL_law_529 : decode cL_law 529 = .ok (.iload 13, 2) := by decide +kernel
theorem dL_law_531 : decode cL_law 531 = .ok (.iconst 0, 1) := by decide +kernel
theorem dL_law_532 : decode cL_law 532 = .ok (.invokevirtual 86, 3) := by decide +kernel
theorem dL_law_535 : decode cL_law 535 = .ok (.ifCond .ne 42, 3) := by decide +kernel
theorem dL_law_538 : decode cL_law 538 = .ok (.aload_n 2, 1) := by decide +kernel
theorem dL_law_539 : decode cL_law 539 = .ok (.iconst 1, 1) := by decide +kernel
theorem dL_law_540 : decode cL_law 540 = .ok (.invokevirtual 38, 3) := by decide +kernel
theorem dL_law_543 : decode cL_law 543 = .ok (.iconst 1, 1) := by decide +kernel
theorem dL_law_544 : decode cL_law 544 = .ok (.if_icmp .ne 33, 3) := by decide +kernel
theorem dL_law_547 : decode cL_law 547 = .ok (.aload_n 2, 1) := by decide +kernel
theorem dL_law_548 : decode cL_law 548 = .ok (.iconst 2, 1) := by decide +kernel
theorem dL_law_549 : decode cL_law 549 = .ok (.invokevirtual 38, 3) := by decide +kernel
theorem dL_law_552 : decode cL_law 552 = .ok (.iload 9, 2) := by decide +kernel
theorem dL_law_554 : decode cL_law 554 = .ok (.if_icmp .ne 23, 3) := by decide +kernel
theorem dL_law_557 : decode cL_law 557 = .ok (.aload_n 2, 1) := by decide +kernel
theorem dL_law_558 : decode cL_law 558 = .ok (.bipush 7, 2) := by decide +kernel
theorem dL_law_560 : decode cL_law 560 = .ok (.invokevirtual 38, 3) := by decide +kernel
theorem dL_law_563 : decode cL_law 563 = .ok (.iload 14, 2) := by decide +kernel
theorem dL_law_565 : decode cL_law 565 = .ok (.if_icmp .ne 12, 3) := by decide +kernel
theorem dL_law_568 : decode cL_law 568 = .ok (.aload_n 1, 1) := by decide +kernel
theorem dL_law_569 : decode cL_law 569 = .ok (.invokevirtual 76, 3) := by decide +kernel
theorem dL_law_572 : decode cL_law 572 = .ok (.iload 9, 2) := by decide +kernel
theorem dL_law_574 : decode cL_law 574 = .ok (.if_icmp .eq 5, 3) := by decide +kernel
theorem dL_law_577 : decode cL_law 577 = .ok (.iconst 0, 1) := by decide +kernel
theorem dL_law_578 : decode cL_law 578 = .ok (.ireturn, 1) := by decide +kernel
theorem dL_law_579 : decode cL_law 579 = .ok (.iload 13, 2) := by decide +kernel
theorem dL_law_581 : decode cL_law 581 = .ok (.ifCond .lt 64, 3) := by decide +kernel
theorem dL_law_584 : decode cL_law 584 = .ok (.iconst 0, 1) := by decide +kernel
theorem dL_law_585 : decode cL_law 585 = .ok (.istore 15, 2) := by decide +kernel
theorem dL_law_587 : decode cL_law 587 = .ok (.iload 15, 2) := by decide +kernel
theorem dL_law_589 : decode cL_law 589 = .ok (.iload 9, 2) := by decide +kernel
theorem dL_law_591 : decode cL_law 591 = .ok (.if_icmp .ge 33, 3) := by decide +kernel
theorem dL_law_594 : decode cL_law 594 = .ok (.aload_n 1, 1) := by decide +kernel
theorem dL_law_595 : decode cL_law 595 = .ok (.aload_n 3, 1) := by decide +kernel
theorem dL_law_596 : decode cL_law 596 = .ok (.iload 15, 2) := by decide +kernel
theorem dL_law_598 : decode cL_law 598 = .ok (.iaload, 1) := by decide +kernel
theorem dL_law_599 : decode cL_law 599 = .ok (.aload 4, 2) := by decide +kernel
theorem dL_law_601 : decode cL_law 601 = .ok (.iload 15, 2) := by decide +kernel
theorem dL_law_603 : decode cL_law 603 = .ok (.iaload, 1) := by decide +kernel
theorem dL_law_604 : decode cL_law 604 = .ok (.aload 5, 2) := by decide +kernel
theorem dL_law_606 : decode cL_law 606 = .ok (.iload 15, 2) := by decide +kernel
theorem dL_law_608 : decode cL_law 608 = .ok (.iaload, 1) := by decide +kernel
theorem dL_law_609 : decode cL_law 609 = .ok (.invokevirtual 86, 3) := by decide +kernel
theorem dL_law_612 : decode cL_law 612 = .ok (.iconst 1, 1) := by decide +kernel
theorem dL_law_613 : decode cL_law 613 = .ok (.if_icmp .eq 5, 3) := by decide +kernel
theorem dL_law_616 : decode cL_law 616 = .ok (.iconst 0, 1) := by decide +kernel
theorem dL_law_617 : decode cL_law 617 = .ok (.ireturn, 1) := by decide +kernel
theorem dL_law_618 : decode cL_law 618 = .ok (.iinc 15 1, 3) := by decide +kernel
theorem dL_law_621 : decode cL_law 621 = .ok (.goto (-34), 3) := by decide +kernel
theorem dL_law_624 : decode cL_law 624 = .ok (.aload_n 1, 1) := by decide +kernel
theorem dL_law_625 : decode cL_law 625 = .ok (.iconst 5, 1) := by decide +kernel
theorem dL_law_626 : decode cL_law 626 = .ok (.iload 13, 2) := by decide +kernel
theorem dL_law_628 : decode cL_law 628 = .ok (.bipush 15, 2) := by decide +kernel
theorem dL_law_630 : decode cL_law 630 = .ok (.invokevirtual 86, 3) := by decide +kernel
theorem dL_law_633 : decode cL_law 633 = .ok (.ifCond .ne 10, 3) := by decide +kernel
theorem dL_law_636 : decode cL_law 636 = .ok (.aload_n 1, 1) := by decide +kernel
theorem dL_law_637 : decode cL_law 637 = .ok (.invokevirtual 89, 3) := by decide +kernel
theorem dL_law_640 : decode cL_law 640 = .ok (.ifCond .ge 5, 3) := by decide +kernel
theorem dL_law_643 : decode cL_law 643 = .ok (.iconst 0, 1) := by decide +kernel
theorem dL_law_644 : decode cL_law 644 = .ok (.ireturn, 1) := by decide +kernel
theorem dL_law_645 : decode cL_law 645 = .ok (.aload_n 2, 1) := by decide +kernel
theorem dL_law_646 : decode cL_law 646 = .ok (.iconst 3, 1) := by decide +kernel
theorem dL_law_647 : decode cL_law 647 = .ok (.invokevirtual 38, 3) := by decide +kernel
theorem dL_law_650 : decode cL_law 650 = .ok (.istore 15, 2) := by decide +kernel
theorem dL_law_652 : decode cL_law 652 = .ok (.aload_n 2, 1) := by decide +kernel
theorem dL_law_653 : decode cL_law 653 = .ok (.invokevirtual 89, 3) := by decide +kernel
theorem dL_law_656 : decode cL_law 656 = .ok (.iload 9, 2) := by decide +kernel
theorem dL_law_658 : decode cL_law 658 = .ok (.iload 15, 2) := by decide +kernel
theorem dL_law_660 : decode cL_law 660 = .ok (.isub, 1) := by decide +kernel
theorem dL_law_661 : decode cL_law 661 = .ok (.if_icmp .ne 54, 3) := by decide +kernel
theorem dL_law_664 : decode cL_law 664 = .ok (.aload_n 1, 1) := by decide +kernel
theorem dL_law_665 : decode cL_law 665 = .ok (.aload_n 2, 1) := by decide +kernel
theorem dL_law_666 : decode cL_law 666 = .ok (.aload_n 0, 1) := by decide +kernel
theorem dL_law_667 : decode cL_law 667 = .ok (.bipush 60, 2) := by decide +kernel
theorem dL_law_669 : decode cL_law 669 = .ok (.iload 7, 2) := by decide +kernel
theorem dL_law_671 : decode cL_law 671 = .ok (.imul, 1) := by decide +kernel
theorem dL_law_672 : decode cL_law 672 = .ok (.bipush 9, 2) := by decide +kernel
theorem dL_law_674 : decode cL_law 674 = .ok (.iadd, 1) := by decide +kernel
theorem dL_law_675 : decode cL_law 675 = .ok (.invokestatic 9, 3) := by decide +kernel
theorem dL_law_678 : decode cL_law 678 = .ok (.invokestatic 97, 3) := by decide +kernel
theorem dL_law_681 : decode cL_law 681 = .ok (.ifCond .eq 34, 3) := by decide +kernel
theorem dL_law_684 : decode cL_law 684 = .ok (.aload_n 2, 1) := by decide +kernel
theorem dL_law_685 : decode cL_law 685 = .ok (.invokestatic 92, 3) := by decide +kernel
theorem dL_law_688 : decode cL_law 688 = .ok (.ifCond .eq 27, 3) := by decide +kernel
theorem dL_law_691 : decode cL_law 691 = .ok (.aload_n 2, 1) := by decide +kernel
theorem dL_law_692 : decode cL_law 692 = .ok (.iconst 0, 1) := by decide +kernel
theorem dL_law_693 : decode cL_law 693 = .ok (.iconst 0, 1) := by decide +kernel
theorem dL_law_694 : decode cL_law 694 = .ok (.iconst 0, 1) := by decide +kernel
theorem dL_law_695 : decode cL_law 695 = .ok (.iconst 0, 1) := by decide +kernel
theorem dL_law_696 : decode cL_law 696 = .ok (.invokevirtual 19, 3) := by decide +kernel
theorem dL_law_699 : decode cL_law 699 = .ok (.bipush (-3), 2) := by decide +kernel
theorem dL_law_701 : decode cL_law 701 = .ok (.if_icmp .ne 14, 3) := by decide +kernel
theorem dL_law_704 : decode cL_law 704 = .ok (.aload_n 2, 1) := by decide +kernel
theorem dL_law_705 : decode cL_law 705 = .ok (.iconst 0, 1) := by decide +kernel
theorem dL_law_706 : decode cL_law 706 = .ok (.iconst 0, 1) := by decide +kernel
theorem dL_law_707 : decode cL_law 707 = .ok (.invokevirtual 25, 3) := by decide +kernel
theorem dL_law_710 : decode cL_law 710 = .ok (.bipush (-3), 2) := by decide +kernel
theorem dL_law_712 : decode cL_law 712 = .ok (.if_icmp .eq 5, 3) := by decide +kernel
theorem dL_law_715 : decode cL_law 715 = .ok (.iconst 0, 1) := by decide +kernel
theorem dL_law_716 : decode cL_law 716 = .ok (.ireturn, 1) := by decide +kernel
theorem dL_law_717 : decode cL_law 717 = .ok (.iinc 7 1, 3) := by decide +kernel
theorem dL_law_720 : decode cL_law 720 = .ok (.goto (-678), 3) := by decide +kernel
theorem dL_law_723 : decode cL_law 723 = .ok (.aload_n 1, 1) := by decide +kernel
theorem dL_law_724 : decode cL_law 724 = .ok (.iconst 4, 1) := by decide +kernel
theorem dL_law_725 : decode cL_law 725 = .ok (.iconst 0, 1) := by decide +kernel
theorem dL_law_726 : decode cL_law 726 = .ok (.invokevirtual 25, 3) := by decide +kernel
theorem dL_law_729 : decode cL_law 729 = .ok (.bipush (-2), 2) := by decide +kernel
theorem dL_law_731 : decode cL_law 731 = .ok (.if_icmp .ne 80, 3) := by decide +kernel
theorem dL_law_734 : decode cL_law 734 = .ok (.aload_n 1, 1) := by decide +kernel
theorem dL_law_735 : decode cL_law 735 = .ok (.iconst 2, 1) := by decide +kernel
theorem dL_law_736 : decode cL_law 736 = .ok (.bipush 7, 2) := by decide +kernel
theorem dL_law_738 : decode cL_law 738 = .ok (.invokevirtual 25, 3) := by decide +kernel
theorem dL_law_741 : decode cL_law 741 = .ok (.bipush (-2), 2) := by decide +kernel
theorem dL_law_743 : decode cL_law 743 = .ok (.if_icmp .ne 68, 3) := by decide +kernel
theorem dL_law_746 : decode cL_law 746 = .ok (.aload_n 1, 1) := by decide +kernel
theorem dL_law_747 : decode cL_law 747 = .ok (.bipush 6, 2) := by decide +kernel
theorem dL_law_749 : decode cL_law 749 = .ok (.iconst 0, 1) := by decide +kernel
theorem dL_law_750 : decode cL_law 750 = .ok (.iconst 0, 1) := by decide +kernel
theorem dL_law_751 : decode cL_law 751 = .ok (.iconst 0, 1) := by decide +kernel
theorem dL_law_752 : decode cL_law 752 = .ok (.invokevirtual 19, 3) := by decide +kernel
theorem dL_law_755 : decode cL_law 755 = .ok (.iconst (-1), 1) := by decide +kernel
theorem dL_law_756 : decode cL_law 756 = .ok (.if_icmp .ne 55, 3) := by decide +kernel
theorem dL_law_759 : decode cL_law 759 = .ok (.aload_n 1, 1) := by decide +kernel
theorem dL_law_760 : decode cL_law 760 = .ok (.iconst 0, 1) := by decide +kernel
theorem dL_law_761 : decode cL_law 761 = .ok (.bipush 31, 2) := by decide +kernel
theorem dL_law_763 : decode cL_law 763 = .ok (.iconst 0, 1) := by decide +kernel
theorem dL_law_764 : decode cL_law 764 = .ok (.iconst 0, 1) := by decide +kernel
theorem dL_law_765 : decode cL_law 765 = .ok (.invokevirtual 19, 3) := by decide +kernel
theorem dL_law_768 : decode cL_law 768 = .ok (.bipush (-2), 2) := by decide +kernel
theorem dL_law_770 : decode cL_law 770 = .ok (.if_icmp .ne 41, 3) := by decide +kernel
theorem dL_law_773 : decode cL_law 773 = .ok (.aload_n 1, 1) := by decide +kernel
theorem dL_law_774 : decode cL_law 774 = .ok (.iconst 0, 1) := by decide +kernel
theorem dL_law_775 : decode cL_law 775 = .ok (.iconst 0, 1) := by decide +kernel
theorem dL_law_776 : decode cL_law 776 = .ok (.iconst 0, 1) := by decide +kernel
theorem dL_law_777 : decode cL_law 777 = .ok (.invokevirtual 60, 3) := by decide +kernel
theorem dL_law_780 : decode cL_law 780 = .ok (.bipush (-3), 2) := by decide +kernel
theorem dL_law_782 : decode cL_law 782 = .ok (.if_icmp .ne 29, 3) := by decide +kernel
theorem dL_law_785 : decode cL_law 785 = .ok (.aload_n 1, 1) := by decide +kernel
theorem dL_law_786 : decode cL_law 786 = .ok (.bipush 7, 2) := by decide +kernel
theorem dL_law_788 : decode cL_law 788 = .ok (.invokevirtual 72, 3) := by decide +kernel
theorem dL_law_791 : decode cL_law 791 = .ok (.bipush (-2), 2) := by decide +kernel
theorem dL_law_793 : decode cL_law 793 = .ok (.if_icmp .ne 18, 3) := by decide +kernel
theorem dL_law_796 : decode cL_law 796 = .ok (.aload_n 1, 1) := by decide +kernel
theorem dL_law_797 : decode cL_law 797 = .ok (.bipush 13, 2) := by decide +kernel
theorem dL_law_799 : decode cL_law 799 = .ok (.invokevirtual 38, 3) := by decide +kernel
theorem dL_law_802 : decode cL_law 802 = .ok (.bipush (-2), 2) := by decide +kernel
theorem dL_law_804 : decode cL_law 804 = .ok (.if_icmp .ne 7, 3) := by decide +kernel
theorem dL_law_807 : decode cL_law 807 = .ok (.iconst 1, 1) := by decide +kernel
theorem dL_law_808 : decode cL_law 808 = .ok (.goto 4, 3) := by decide +kernel
theorem dL_law_811 : decode cL_law 811 = .ok (.iconst 0, 1) := by decide +kernel
theorem dL_law_812 : decode cL_law 812 = .ok (.ireturn, 1) := by decide +kernel
