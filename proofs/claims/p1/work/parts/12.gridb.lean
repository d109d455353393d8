theorem dX8_grid_0 : decode cX8_grid 0 = .ok (.iload_n 1, 1) := by decide +kernel
theorem dX8_grid_1 : decode cX8_grid 1 = .ok (.i2l, 1) := by decide +kernel
theorem dX8_grid_2 : decode cX8_grid 2 = .ok (.lconst 0, 1) := by decide +kernel
theorem dX8_grid_3 : decode cX8_grid 3 = .ok (.ldc2_w 204, 3) := by decide +kernel
theorem zk_901 : Cond.constantLong RX8 204 (7) ∈ zz_w := zz_in (List.mem_append_right _ (List.mem_append_right _ (List.mem_append_right _ (List.mem_append_right _ (List.mem_append_left _ (List.mem_of_getElem? (i := 181) (by decide +kernel))))))) rfl
theorem dX8_grid_6 : decode cX8_grid 6 = .ok (.invokestatic 106, 3) := by decide +kernel
theorem dX8_grid_9 : decode cX8_grid 9 = .ok (.ifCond .eq 15, 3) := by decide +kernel
theorem dX8_grid_24 : decode cX8_grid 24 = .ok (.aload_n 0, 1) := by decide +kernel
theorem dX8_grid_25 : decode cX8_grid 25 = .ok (.bipush 9, 2) := by decide +kernel
theorem dX8_grid_27 : decode cX8_grid 27 = .ok (.invokevirtual 175, 3) := by decide +kernel
theorem dX8_grid_30 : decode cX8_grid 30 = .ok (.ireturn, 1) := by decide +kernel
theorem dX8_grid_12 : decode cX8_grid 12 = .ok (.iload_n 2, 1) := by decide +kernel
theorem dX8_grid_13 : decode cX8_grid 13 = .ok (.i2l, 1) := by decide +kernel
theorem dX8_grid_14 : decode cX8_grid 14 = .ok (.lconst 1, 1) := by decide +kernel
theorem dX8_grid_15 : decode cX8_grid 15 = .ok (.ldc2_w 206, 3) := by decide +kernel
theorem zk_902 : Cond.constantLong RX8 206 (4) ∈ zz_w := zz_in (List.mem_append_right _ (List.mem_append_right _ (List.mem_append_right _ (List.mem_append_right _ (List.mem_append_left _ (List.mem_of_getElem? (i := 182) (by decide +kernel))))))) rfl
theorem dX8_grid_18 : decode cX8_grid 18 = .ok (.invokestatic 106, 3) := by decide +kernel
theorem dX8_grid_21 : decode cX8_grid 21 = .ok (.ifCond .ne 10, 3) := by decide +kernel
theorem dX8_grid_31 : decode cX8_grid 31 = .ok (.aload_n 0, 1) := by decide +kernel
theorem dX8_grid_32 : decode cX8_grid 32 = .ok (.getfield 33, 3) := by decide +kernel
theorem zf_X8_33 : zz_f RX8 33 7 10 := ⟨RX8, TX8, 37, rfl, zi_X8, by decide, zk_745⟩
theorem dX8_grid_35 : decode cX8_grid 35 = .ok (.iconst 0, 1) := by decide +kernel
theorem dX8_grid_36 : decode cX8_grid 36 = .ok (.iload_n 3, 1) := by decide +kernel
theorem dX8_grid_37 : decode cX8_grid 37 = .ok (.iastore, 1) := by decide +kernel
theorem dX8_grid_38 : decode cX8_grid 38 = .ok (.aload_n 0, 1) := by decide +kernel
theorem dX8_grid_39 : decode cX8_grid 39 = .ok (.getfield 33, 3) := by decide +kernel
theorem dX8_grid_42 : decode cX8_grid 42 = .ok (.iconst 1, 1) := by decide +kernel
theorem dX8_grid_43 : decode cX8_grid 43 = .ok (.iload 4, 2) := by decide +kernel
theorem dX8_grid_45 : decode cX8_grid 45 = .ok (.iastore, 1) := by decide +kernel
theorem dX8_grid_46 : decode cX8_grid 46 = .ok (.aload_n 0, 1) := by decide +kernel
theorem dX8_grid_47 : decode cX8_grid 47 = .ok (.getfield 33, 3) := by decide +kernel
theorem dX8_grid_50 : decode cX8_grid 50 = .ok (.iconst 2, 1) := by decide +kernel
theorem dX8_grid_51 : decode cX8_grid 51 = .ok (.iload 5, 2) := by decide +kernel
theorem dX8_grid_53 : decode cX8_grid 53 = .ok (.iastore, 1) := by decide +kernel
theorem dX8_grid_54 : decode cX8_grid 54 = .ok (.aload_n 0, 1) := by decide +kernel
theorem dX8_grid_55 : decode cX8_grid 55 = .ok (.getfield 33, 3) := by decide +kernel
theorem dX8_grid_58 : decode cX8_grid 58 = .ok (.iconst 3, 1) := by decide +kernel
theorem dX8_grid_59 : decode cX8_grid 59 = .ok (.iload 6, 2) := by decide +kernel
theorem dX8_grid_61 : decode cX8_grid 61 = .ok (.iastore, 1) := by decide +kernel
theorem dX8_grid_62 : decode cX8_grid 62 = .ok (.lconst 0, 1) := by decide +kernel
theorem dX8_grid_63 : decode cX8_grid 63 = .ok (.lstore 7, 2) := by decide +kernel
theorem dX8_grid_65 : decode cX8_grid 65 = .ok (.lconst 0, 1) := by decide +kernel
theorem dX8_grid_66 : decode cX8_grid 66 = .ok (.lstore 9, 2) := by decide +kernel
theorem dX8_grid_68 : decode cX8_grid 68 = .ok (.lconst 1, 1) := by decide +kernel
theorem dX8_grid_69 : decode cX8_grid 69 = .ok (.lstore 11, 2) := by decide +kernel
theorem dX8_grid_71 : decode cX8_grid 71 = .ok (.iconst 0, 1) := by decide +kernel
theorem dX8_grid_72 : decode cX8_grid 72 = .ok (.istore 13, 2) := by decide +kernel
theorem dX8_grid_74 : decode cX8_grid 74 = .ok (.iconst 0, 1) := by decide +kernel
theorem dX8_grid_75 : decode cX8_grid 75 = .ok (.istore 14, 2) := by decide +kernel
theorem dX8_grid_77 : decode cX8_grid 77 = .ok (.iload 14, 2) := by decide +kernel
theorem dX8_grid_79 : decode cX8_grid 79 = .ok (.iload_n 2, 1) := by decide +kernel
theorem dX8_grid_80 : decode cX8_grid 80 = .ok (.if_icmp .ge 25, 3) := by decide +kernel
theorem dX8_grid_83 : decode cX8_grid 83 = .ok (.aload_n 0, 1) := by decide +kernel
theorem dX8_grid_84 : decode cX8_grid 84 = .ok (.getfield 33, 3) := by decide +kernel
theorem dX8_grid_87 : decode cX8_grid 87 = .ok (.iload 14, 2) := by decide +kernel
theorem dX8_grid_89 : decode cX8_grid 89 = .ok (.iaload, 1) := by decide +kernel
theorem dX8_grid_90 : decode cX8_grid 90 = .ok (.ifCond .ge 9, 3) := by decide +kernel
theorem dX8_grid_99 : decode cX8_grid 99 = .ok (.iinc 14 1, 3) := by decide +kernel
theorem dX8_grid_102 : decode cX8_grid 102 = .ok (.goto (-25), 3) := by decide +kernel
theorem dX8_grid_105 : decode cX8_grid 105 = .ok (.iconst 0, 1) := by decide +kernel
theorem dX8_grid_106 : decode cX8_grid 106 = .ok (.istore 14, 2) := by decide +kernel
theorem dX8_grid_108 : decode cX8_grid 108 = .ok (.iload 14, 2) := by decide +kernel
theorem dX8_grid_110 : decode cX8_grid 110 = .ok (.iload_n 2, 1) := by decide +kernel
theorem dX8_grid_111 : decode cX8_grid 111 = .ok (.if_icmp .ge 68, 3) := by decide +kernel
theorem dX8_grid_114 : decode cX8_grid 114 = .ok (.iload 13, 2) := by decide +kernel
theorem dX8_grid_116 : decode cX8_grid 116 = .ok (.aload_n 0, 1) := by decide +kernel
theorem dX8_grid_117 : decode cX8_grid 117 = .ok (.getfield 33, 3) := by decide +kernel
theorem dX8_grid_120 : decode cX8_grid 120 = .ok (.iload 14, 2) := by decide +kernel
theorem dX8_grid_122 : decode cX8_grid 122 = .ok (.iaload, 1) := by decide +kernel
theorem dX8_grid_123 : decode cX8_grid 123 = .ok (.sipush 200, 3) := by decide +kernel
theorem dX8_grid_134 : decode cX8_grid 134 = .ok (.ior, 1) := by decide +kernel
theorem dX8_grid_135 : decode cX8_grid 135 = .ok (.istore 13, 2) := by decide +kernel
theorem dX8_grid_137 : decode cX8_grid 137 = .ok (.lload 7, 2) := by decide +kernel
theorem dX8_grid_139 : decode cX8_grid 139 = .ok (.lload 11, 2) := by decide +kernel
theorem dX8_grid_141 : decode cX8_grid 141 = .ok (.ladd, 1) := by decide +kernel
theorem dX8_grid_142 : decode cX8_grid 142 = .ok (.lstore 7, 2) := by decide +kernel
theorem dX8_grid_144 : decode cX8_grid 144 = .ok (.lload 9, 2) := by decide +kernel
theorem dX8_grid_146 : decode cX8_grid 146 = .ok (.lload 11, 2) := by decide +kernel
theorem dX8_grid_148 : decode cX8_grid 148 = .ok (.aload_n 0, 1) := by decide +kernel
theorem dX8_grid_149 : decode cX8_grid 149 = .ok (.getfield 33, 3) := by decide +kernel
theorem dX8_grid_152 : decode cX8_grid 152 = .ok (.iload 14, 2) := by decide +kernel
theorem dX8_grid_154 : decode cX8_grid 154 = .ok (.iaload, 1) := by decide +kernel
theorem dX8_grid_155 : decode cX8_grid 155 = .ok (.i2l, 1) := by decide +kernel
theorem dX8_grid_156 : decode cX8_grid 156 = .ok (.lmul, 1) := by decide +kernel
theorem dX8_grid_157 : decode cX8_grid 157 = .ok (.ladd, 1) := by decide +kernel
theorem dX8_grid_158 : decode cX8_grid 158 = .ok (.lstore 9, 2) := by decide +kernel
theorem dX8_grid_160 : decode cX8_grid 160 = .ok (.lload 11, 2) := by decide +kernel
theorem dX8_grid_162 : decode cX8_grid 162 = .ok (.aload_n 0, 1) := by decide +kernel
theorem dX8_grid_163 : decode cX8_grid 163 = .ok (.getfield 33, 3) := by decide +kernel
theorem dX8_grid_166 : decode cX8_grid 166 = .ok (.iload 14, 2) := by decide +kernel
theorem dX8_grid_168 : decode cX8_grid 168 = .ok (.iaload, 1) := by decide +kernel
theorem dX8_grid_169 : decode cX8_grid 169 = .ok (.i2l, 1) := by decide +kernel
theorem dX8_grid_170 : decode cX8_grid 170 = .ok (.lmul, 1) := by decide +kernel
theorem dX8_grid_171 : decode cX8_grid 171 = .ok (.lstore 11, 2) := by decide +kernel
theorem dX8_grid_173 : decode cX8_grid 173 = .ok (.iinc 14 1, 3) := by decide +kernel
theorem dX8_grid_176 : decode cX8_grid 176 = .ok (.goto (-68), 3) := by decide +kernel
theorem dX8_grid_179 : decode cX8_grid 179 = .ok (.iload 13, 2) := by decide +kernel
theorem dX8_grid_181 : decode cX8_grid 181 = .ok (.ifCond .ne 24, 3) := by decide +kernel
theorem dX8_grid_205 : decode cX8_grid 205 = .ok (.aload_n 0, 1) := by decide +kernel
theorem dX8_grid_206 : decode cX8_grid 206 = .ok (.bipush 8, 2) := by decide +kernel
theorem dX8_grid_208 : decode cX8_grid 208 = .ok (.invokevirtual 175, 3) := by decide +kernel
theorem dX8_grid_211 : decode cX8_grid 211 = .ok (.ireturn, 1) := by decide +kernel
theorem dX8_grid_184 : decode cX8_grid 184 = .ok (.lload 7, 2) := by decide +kernel
theorem dX8_grid_186 : decode cX8_grid 186 = .ok (.ldc2_w 208, 3) := by decide +kernel
theorem zk_903 : Cond.constantLong RX8 208 (60) ∈ zz_w := zz_in (List.mem_append_right _ (List.mem_append_right _ (List.mem_append_right _ (List.mem_append_right _ (List.mem_append_left _ (List.mem_of_getElem? (i := 183) (by decide +kernel))))))) rfl
theorem dX8_grid_189 : decode cX8_grid 189 = .ok (.lcmp, 1) := by decide +kernel
theorem dX8_grid_190 : decode cX8_grid 190 = .ok (.ifCond .gt 15, 3) := by decide +kernel
theorem dX8_grid_193 : decode cX8_grid 193 = .ok (.aload_n 0, 1) := by decide +kernel
theorem dX8_grid_194 : decode cX8_grid 194 = .ok (.lload 7, 2) := by decide +kernel
theorem dX8_grid_196 : decode cX8_grid 196 = .ok (.l2i, 1) := by decide +kernel
theorem dX8_grid_197 : decode cX8_grid 197 = .ok (.lload 9, 2) := by decide +kernel
theorem dX8_grid_199 : decode cX8_grid 199 = .ok (.invokevirtual 191, 3) := by decide +kernel
theorem dX8_grid_202 : decode cX8_grid 202 = .ok (.ifCond .ne 10, 3) := by decide +kernel
theorem dX8_grid_212 : decode cX8_grid 212 = .ok (.aload_n 0, 1) := by decide +kernel
theorem dX8_grid_213 : decode cX8_grid 213 = .ok (.getfield 103, 3) := by decide +kernel
theorem dX8_grid_216 : decode cX8_grid 216 = .ok (.istore 14, 2) := by decide +kernel
theorem dX8_grid_218 : decode cX8_grid 218 = .ok (.aload_n 0, 1) := by decide +kernel
theorem dX8_grid_219 : decode cX8_grid 219 = .ok (.iload_n 1, 1) := by decide +kernel
theorem dX8_grid_220 : decode cX8_grid 220 = .ok (.iload_n 2, 1) := by decide +kernel
theorem dX8_grid_221 : decode cX8_grid 221 = .ok (.iconst (-1), 1) := by decide +kernel
theorem dX8_grid_222 : decode cX8_grid 222 = .ok (.aload_n 0, 1) := by decide +kernel
theorem dX8_grid_223 : decode cX8_grid 223 = .ok (.getfield 33, 3) := by decide +kernel
theorem dX8_grid_226 : decode cX8_grid 226 = .ok (.iconst 0, 1) := by decide +kernel
theorem dX8_grid_227 : decode cX8_grid 227 = .ok (.iaload, 1) := by decide +kernel
theorem dX8_grid_228 : decode cX8_grid 228 = .ok (.invokevirtual 194, 3) := by decide +kernel
theorem dX8_grid_231 : decode cX8_grid 231 = .ok (.istore 15, 2) := by decide +kernel
theorem dX8_grid_233 : decode cX8_grid 233 = .ok (.iconst 0, 1) := by decide +kernel
theorem dX8_grid_234 : decode cX8_grid 234 = .ok (.istore 16, 2) := by decide +kernel
theorem dX8_grid_236 : decode cX8_grid 236 = .ok (.aload_n 0, 1) := by decide +kernel
theorem dX8_grid_237 : decode cX8_grid 237 = .ok (.getfield 36, 3) := by decide +kernel
theorem zf_X8_36 : zz_f RX8 36 7 11 := ⟨RX8, TX8, 37, rfl, zi_X8, by decide, zk_746⟩
theorem dX8_grid_240 : decode cX8_grid 240 = .ok (.iconst 0, 1) := by decide +kernel
theorem dX8_grid_241 : decode cX8_grid 241 = .ok (.iload 15, 2) := by decide +kernel
theorem dX8_grid_243 : decode cX8_grid 243 = .ok (.iastore, 1) := by decide +kernel
theorem dX8_grid_244 : decode cX8_grid 244 = .ok (.aload_n 0, 1) := by decide +kernel
theorem dX8_grid_245 : decode cX8_grid 245 = .ok (.getfield 42, 3) := by decide +kernel
theorem zf_X8_42 : zz_f RX8 42 7 13 := ⟨RX8, TX8, 37, rfl, zi_X8, by decide, zk_748⟩
theorem dX8_grid_248 : decode cX8_grid 248 = .ok (.iconst 0, 1) := by decide +kernel
theorem dX8_grid_249 : decode cX8_grid 249 = .ok (.iconst 0, 1) := by decide +kernel
theorem dX8_grid_250 : decode cX8_grid 250 = .ok (.iastore, 1) := by decide +kernel
theorem dX8_grid_251 : decode cX8_grid 251 = .ok (.iload 16, 2) := by decide +kernel
theorem dX8_grid_253 : decode cX8_grid 253 = .ok (.ifCond .lt 123, 3) := by decide +kernel
theorem dX8_grid_376 : decode cX8_grid 376 = .ok (.aload_n 0, 1) := by decide +kernel
theorem dX8_grid_377 : decode cX8_grid 377 = .ok (.iload 14, 2) := by decide +kernel
theorem dX8_grid_379 : decode cX8_grid 379 = .ok (.invokevirtual 183, 3) := by decide +kernel
theorem dX8_grid_382 : decode cX8_grid 382 = .ok (.ireturn, 1) := by decide +kernel
theorem dX8_grid_256 : decode cX8_grid 256 = .ok (.aload_n 0, 1) := by decide +kernel
theorem dX8_grid_257 : decode cX8_grid 257 = .ok (.getfield 36, 3) := by decide +kernel
theorem dX8_grid_260 : decode cX8_grid 260 = .ok (.iload 16, 2) := by decide +kernel
theorem dX8_grid_262 : decode cX8_grid 262 = .ok (.iaload, 1) := by decide +kernel
theorem dX8_grid_263 : decode cX8_grid 263 = .ok (.istore 17, 2) := by decide +kernel
theorem dX8_grid_265 : decode cX8_grid 265 = .ok (.iload 16, 2) := by decide +kernel
theorem dX8_grid_267 : decode cX8_grid 267 = .ok (.iload_n 2, 1) := by decide +kernel
theorem dX8_grid_268 : decode cX8_grid 268 = .ok (.iconst 1, 1) := by decide +kernel
theorem dX8_grid_269 : decode cX8_grid 269 = .ok (.isub, 1) := by decide +kernel
theorem dX8_grid_270 : decode cX8_grid 270 = .ok (.if_icmp .eq 20, 3) := by decide +kernel
theorem dX8_grid_290 : decode cX8_grid 290 = .ok (.iinc 16 (-1), 3) := by decide +kernel
theorem dX8_grid_293 : decode cX8_grid 293 = .ok (.goto (-42), 3) := by decide +kernel
theorem dX8_grid_273 : decode cX8_grid 273 = .ok (.aload_n 0, 1) := by decide +kernel
theorem dX8_grid_274 : decode cX8_grid 274 = .ok (.getfield 42, 3) := by decide +kernel
theorem dX8_grid_277 : decode cX8_grid 277 = .ok (.iload 16, 2) := by decide +kernel
theorem dX8_grid_279 : decode cX8_grid 279 = .ok (.iaload, 1) := by decide +kernel
theorem dX8_grid_280 : decode cX8_grid 280 = .ok (.aload_n 0, 1) := by decide +kernel
theorem dX8_grid_281 : decode cX8_grid 281 = .ok (.getfield 16, 3) := by decide +kernel
theorem dX8_grid_284 : decode cX8_grid 284 = .ok (.iload 17, 2) := by decide +kernel
theorem dX8_grid_286 : decode cX8_grid 286 = .ok (.iaload, 1) := by decide +kernel
theorem dX8_grid_287 : decode cX8_grid 287 = .ok (.if_icmp .ne 9, 3) := by decide +kernel
theorem dX8_grid_296 : decode cX8_grid 296 = .ok (.aload_n 0, 1) := by decide +kernel
theorem dX8_grid_297 : decode cX8_grid 297 = .ok (.iload_n 1, 1) := by decide +kernel
theorem dX8_grid_298 : decode cX8_grid 298 = .ok (.iload_n 2, 1) := by decide +kernel
theorem dX8_grid_299 : decode cX8_grid 299 = .ok (.iload 16, 2) := by decide +kernel
theorem dX8_grid_301 : decode cX8_grid 301 = .ok (.isub, 1) := by decide +kernel
theorem dX8_grid_302 : decode cX8_grid 302 = .ok (.iconst 1, 1) := by decide +kernel
theorem dX8_grid_303 : decode cX8_grid 303 = .ok (.isub, 1) := by decide +kernel
theorem dX8_grid_304 : decode cX8_grid 304 = .ok (.iconst (-1), 1) := by decide +kernel
theorem dX8_grid_305 : decode cX8_grid 305 = .ok (.aload_n 0, 1) := by decide +kernel
theorem dX8_grid_306 : decode cX8_grid 306 = .ok (.getfield 33, 3) := by decide +kernel
theorem dX8_grid_309 : decode cX8_grid 309 = .ok (.iload 16, 2) := by decide +kernel
theorem dX8_grid_311 : decode cX8_grid 311 = .ok (.iconst 1, 1) := by decide +kernel
theorem dX8_grid_312 : decode cX8_grid 312 = .ok (.iadd, 1) := by decide +kernel
theorem dX8_grid_313 : decode cX8_grid 313 = .ok (.iaload, 1) := by decide +kernel
theorem dX8_grid_314 : decode cX8_grid 314 = .ok (.invokevirtual 194, 3) := by decide +kernel
theorem dX8_grid_317 : decode cX8_grid 317 = .ok (.istore 18, 2) := by decide +kernel
theorem dX8_grid_319 : decode cX8_grid 319 = .ok (.aload_n 0, 1) := by decide +kernel
theorem dX8_grid_320 : decode cX8_grid 320 = .ok (.getfield 25, 3) := by decide +kernel
theorem dX8_grid_323 : decode cX8_grid 323 = .ok (.aload_n 0, 1) := by decide +kernel
theorem dX8_grid_324 : decode cX8_grid 324 = .ok (.getfield 22, 3) := by decide +kernel
theorem dX8_grid_327 : decode cX8_grid 327 = .ok (.iload 17, 2) := by decide +kernel
theorem dX8_grid_329 : decode cX8_grid 329 = .ok (.iaload, 1) := by decide +kernel
theorem dX8_grid_330 : decode cX8_grid 330 = .ok (.aload_n 0, 1) := by decide +kernel
theorem dX8_grid_331 : decode cX8_grid 331 = .ok (.getfield 42, 3) := by decide +kernel
theorem dX8_grid_334 : decode cX8_grid 334 = .ok (.iload 16, 2) := by decide +kernel
theorem dX8_grid_336 : decode cX8_grid 336 = .ok (.iaload, 1) := by decide +kernel
theorem dX8_grid_337 : decode cX8_grid 337 = .ok (.iadd, 1) := by decide +kernel
theorem dX8_grid_338 : decode cX8_grid 338 = .ok (.iload 18, 2) := by decide +kernel
theorem dX8_grid_340 : decode cX8_grid 340 = .ok (.i2l, 1) := by decide +kernel
theorem dX8_grid_341 : decode cX8_grid 341 = .ok (.lastore, 1) := by decide +kernel
theorem dX8_grid_342 : decode cX8_grid 342 = .ok (.aload_n 0, 1) := by decide +kernel
theorem dX8_grid_343 : decode cX8_grid 343 = .ok (.getfield 42, 3) := by decide +kernel
theorem dX8_grid_346 : decode cX8_grid 346 = .ok (.iload 16, 2) := by decide +kernel
theorem dX8_grid_348 : decode cX8_grid 348 = .ok (.dup2, 1) := by decide +kernel
theorem dX8_grid_349 : decode cX8_grid 349 = .ok (.iaload, 1) := by decide +kernel
theorem dX8_grid_350 : decode cX8_grid 350 = .ok (.iconst 1, 1) := by decide +kernel
theorem dX8_grid_351 : decode cX8_grid 351 = .ok (.iadd, 1) := by decide +kernel
theorem dX8_grid_352 : decode cX8_grid 352 = .ok (.iastore, 1) := by decide +kernel
theorem dX8_grid_353 : decode cX8_grid 353 = .ok (.iinc 16 1, 3) := by decide +kernel
theorem dX8_grid_356 : decode cX8_grid 356 = .ok (.aload_n 0, 1) := by decide +kernel
theorem dX8_grid_357 : decode cX8_grid 357 = .ok (.getfield 36, 3) := by decide +kernel
theorem dX8_grid_360 : decode cX8_grid 360 = .ok (.iload 16, 2) := by decide +kernel
theorem dX8_grid_362 : decode cX8_grid 362 = .ok (.iload 18, 2) := by decide +kernel
theorem dX8_grid_364 : decode cX8_grid 364 = .ok (.iastore, 1) := by decide +kernel
theorem dX8_grid_365 : decode cX8_grid 365 = .ok (.aload_n 0, 1) := by decide +kernel
theorem dX8_grid_366 : decode cX8_grid 366 = .ok (.getfield 42, 3) := by decide +kernel
theorem dX8_grid_369 : decode cX8_grid 369 = .ok (.iload 16, 2) := by decide +kernel
theorem dX8_grid_371 : decode cX8_grid 371 = .ok (.iconst 0, 1) := by decide +kernel
theorem dX8_grid_372 : decode cX8_grid 372 = .ok (.iastore, 1) := by decide +kernel
theorem dX8_grid_373 : decode cX8_grid 373 = .ok (.goto (-122), 3) := by decide +kernel
theorem dX8_grid_126 : decode cX8_grid 126 = .ok (.if_icmp .le 7, 3) := by decide +kernel
theorem dX8_grid_133 : decode cX8_grid 133 = .ok (.iconst 0, 1) := by decide +kernel
theorem dX8_grid_129 : decode cX8_grid 129 = .ok (.iconst 1, 1) := by decide +kernel
theorem dX8_grid_130 : decode cX8_grid 130 = .ok (.goto 4, 3) := by decide +kernel
theorem dX8_grid_93 : decode cX8_grid 93 = .ok (.aload_n 0, 1) := by decide +kernel
theorem dX8_grid_94 : decode cX8_grid 94 = .ok (.iconst 4, 1) := by decide +kernel
theorem dX8_grid_95 : decode cX8_grid 95 = .ok (.invokevirtual 175, 3) := by decide +kernel
theorem dX8_grid_98 : decode cX8_grid 98 = .ok (.ireturn, 1) := by decide +kernel
def fn_my_grid_901 (x1 : Int32) (x3 : Int32) (x4 : Int32) (x5 : Int32) (x6 : Int32) : Int32 := (if 0 ≤ x3 then (if (0 ||| (if x3 ≤ 200 then (0 : Int32) else 1)) = 0 then (if (fn_cm_isRoom 0 0 1 (0 + (1 * x3.toInt64))) = 0 then -8 else 0) else -8) else -4)
def fn_my_grid_902 (x1 : Int32) (x3 : Int32) (x4 : Int32) (x5 : Int32) (x6 : Int32) : Int32 := (if 0 ≤ x3 then (if 0 ≤ x4 then (if ((0 ||| (if x3 ≤ 200 then (0 : Int32) else 1)) ||| (if x4 ≤ 200 then (0 : Int32) else 1)) = 0 then (if 60 < (1 + (1 * x3.toInt64)) then -8 else (if (fn_cm_isRoom 0 0 ((1 + (1 * x3.toInt64)).toInt32) ((0 + (1 * x3.toInt64)) + ((1 * x3.toInt64) * x4.toInt64))) = 0 then -8 else 0)) else -8) else -4) else -4)
def fn_my_grid_903 (x1 : Int32) (x3 : Int32) (x4 : Int32) (x5 : Int32) (x6 : Int32) : Int32 := (if 0 ≤ x3 then (if 0 ≤ x4 then (if 0 ≤ x5 then (if (((0 ||| (if x3 ≤ 200 then (0 : Int32) else 1)) ||| (if x4 ≤ 200 then (0 : Int32) else 1)) ||| (if x5 ≤ 200 then (0 : Int32) else 1)) = 0 then (if 60 < ((1 + (1 * x3.toInt64)) + ((1 * x3.toInt64) * x4.toInt64)) then -8 else (if (fn_cm_isRoom 0 0 (((1 + (1 * x3.toInt64)) + ((1 * x3.toInt64) * x4.toInt64)).toInt32) (((0 + (1 * x3.toInt64)) + ((1 * x3.toInt64) * x4.toInt64)) + (((1 * x3.toInt64) * x4.toInt64) * x5.toInt64))) = 0 then -8 else 0)) else -8) else -4) else -4) else -4)
def fn_my_grid_904 (x1 : Int32) (x3 : Int32) (x4 : Int32) (x5 : Int32) (x6 : Int32) : Int32 := (if 0 ≤ x3 then (if 0 ≤ x4 then (if 0 ≤ x5 then (if 0 ≤ x6 then (if ((((0 ||| (if x3 ≤ 200 then (0 : Int32) else 1)) ||| (if x4 ≤ 200 then (0 : Int32) else 1)) ||| (if x5 ≤ 200 then (0 : Int32) else 1)) ||| (if x6 ≤ 200 then (0 : Int32) else 1)) = 0 then (if 60 < (((1 + (1 * x3.toInt64)) + ((1 * x3.toInt64) * x4.toInt64)) + (((1 * x3.toInt64) * x4.toInt64) * x5.toInt64)) then -8 else (if (fn_cm_isRoom 0 0 ((((1 + (1 * x3.toInt64)) + ((1 * x3.toInt64) * x4.toInt64)) + (((1 * x3.toInt64) * x4.toInt64) * x5.toInt64)).toInt32) ((((0 + (1 * x3.toInt64)) + ((1 * x3.toInt64) * x4.toInt64)) + (((1 * x3.toInt64) * x4.toInt64) * x5.toInt64)) + ((((1 * x3.toInt64) * x4.toInt64) * x5.toInt64) * x6.toInt64))) = 0 then -8 else 0)) else -8) else -4) else -4) else -4) else -4)
def fn_my_grid (x1 : Int32) (x2 : Int32) (x3 : Int32) (x4 : Int32) (x5 : Int32) (x6 : Int32) : Int32 := (if (fn_cm_within x1.toInt64 0 7) = 0 then -9 else (if (fn_cm_within x2.toInt64 1 4) = 0 then -9 else (if x2 = 1 then (fn_my_grid_901 x1 x3 x4 x5 x6) else (if x2 = 2 then (fn_my_grid_902 x1 x3 x4 x5 x6) else (if x2 = 3 then (fn_my_grid_903 x1 x3 x4 x5 x6) else (fn_my_grid_904 x1 x3 x4 x5 x6))))))
abbrev rm_my_grid : Room := { frames := 1, cells := 0, slots := 0, locals := 26 }
abbrev po_my_grid (g : zz_G) (h0 : Nat) (a_kindOf : Nat) (a_depthOf : Nat) (a_lengthOf : Nat) (a_classOf : Nat) (a_baseOf : Nat) (a_bits : Nat) (a_pinned : Nat) (a_lengths : Nat) (a_stackArray : Nat) (a_stackOther : Nat) (a_stackAt : Nat) (a_path : Nat) (a_held : Nat) (a_alike : Nat) (a_hashes : Nat) (a_decisionArray : Nat) (a_decisionPlace : Nat) (a_candidateMany : Nat) (a_candidates : Nat) (a_ruleSort : Nat) (a_ruleArray : Nat) (a_ruleWeight : Nat) (a_ruleLow : Nat) (a_ruleHigh : Nat) (a_chosen : Nat) (a_bestOf : Nat) (a_markElements : Nat) (a_markBits : Nat) (a_markPins : Nat) (x1 : Int32) (x2 : Int32) (x3 : Int32) (x4 : Int32) (x5 : Int32) (x6 : Int32) : Int32 → va_W → Prop := fun (r : Int32) (u : va_W) => r = fn_my_grid x1 x2 x3 x4 x5 x6
set_option maxHeartbeats 4000000 in
set_option maxRecDepth 100000 in
theorem my_grid_b {p : Program} {l : Launch} {e : Env} {s : State} {m : MethodId} {args : Array Value} {below : List Frame} {meth : Method} {c : Code} {A : Nat → Prop} {H : Heap} {locs : List Loc} {ls : Array Slot} (g : zz_G) (h0 : Nat) (a_kindOf : Nat) (a_depthOf : Nat) (a_lengthOf : Nat) (a_classOf : Nat) (a_baseOf : Nat) (a_bits : Nat) (a_pinned : Nat) (a_lengths : Nat) (a_stackArray : Nat) (a_stackOther : Nat) (a_stackAt : Nat) (a_path : Nat) (a_held : Nat) (a_alike : Nat) (a_hashes : Nat) (a_decisionArray : Nat) (a_decisionPlace : Nat) (a_candidateMany : Nat) (a_candidates : Nat) (a_ruleSort : Nat) (a_ruleArray : Nat) (a_ruleWeight : Nat) (a_ruleLow : Nat) (a_ruleHigh : Nat) (a_chosen : Nat) (a_bestOf : Nat) (a_markElements : Nat) (a_markBits : Nat) (a_markPins : Nat) (x1 : Int32) (x2 : Int32) (x3 : Int32) (x4 : Int32) (x5 : Int32) (x6 : Int32) (dv : Int32) (D : Nat) (ll : Nat → Nat) (lf : Nat → Int32) (hdv : dv = nI (D + 1)) (hD : D < 4) (hll : ∀ j, j < D + 1 → lf j = nI (ll j) ∧ ll j ≤ 200) (hT0 : zz_TT2 ll (D + 1) 0 ≤ 60) (hE0 : zz_EE ll (D + 1) 0 ≤ 4000) (eB : fn_my_grid x1 x2 x3 x4 x5 x6 = 0) (hC : zz_C p s m args meth c g RX8 cX8_grid 19 (some .int)) (hZ : zz_Z g A s.heap [(h0, .inr (7, [.int 0, .int 0, .ref a_kindOf, .ref a_depthOf, .ref a_lengthOf, .ref a_classOf, .ref a_baseOf, .ref a_bits, .ref a_pinned, .int 0, .ref a_lengths, .ref a_stackArray, .ref a_stackOther, .ref a_stackAt, .int 0, .int 0, .ref a_path, .ref a_held, .ref a_alike, .ref a_hashes, .int 0, .ref a_decisionArray, .ref a_decisionPlace, .ref a_candidateMany, .ref a_candidates, .int 0, .ref a_ruleSort, .ref a_ruleArray, .ref a_ruleWeight, .ref a_ruleLow, .ref a_ruleHigh, .ref a_chosen, .ref a_bestOf, .int 0, .ref a_markElements, .ref a_markBits, .ref a_markPins])), (a_kindOf, .inl (g.2.1, 60, .inl (fun _ => 0))), (a_depthOf, .inl (g.2.1, 60, .inl (fun _ => 0))), (a_lengthOf, .inl (g.2.1, 60, .inl (fun _ => 0))), (a_classOf, .inl (g.2.1, 60, .inl (fun _ => 0))), (a_baseOf, .inl (g.2.1, 60, .inl (fun _ => 0))), (a_bits, .inl (g.2.2.1, 4000, .inr (.inl (fun _ => 0)))), (a_pinned, .inl (g.2.2.2.1, 4000, .inl (fun _ => 0))), (a_lengths, .inl (g.2.1, 4, .inl lf)), (a_stackArray, .inl (g.2.1, 5, .inl (fun _ => 0))), (a_stackAt, .inl (g.2.1, 5, .inl (fun _ => 0)))] H locs) (hl : lv_has ls 19 [(0, .ref h0), (1, .int x1), (2, .int dv)]) : W p l e rm_my_grid s m args below meth c H locs 0 0 (zz_QI below g args s A rm_my_grid.cells rm_my_grid.slots (po_my_grid g h0 a_kindOf a_depthOf a_lengthOf a_classOf a_baseOf a_bits a_pinned a_lengths a_stackArray a_stackOther a_stackAt a_path a_held a_alike a_hashes a_decisionArray a_decisionPlace a_candidateMany a_candidates a_ruleSort a_ruleArray a_ruleWeight a_ruleLow a_ruleHigh a_chosen a_bestOf a_markElements a_markBits a_markPins x1 x2 x3 x4 x5 x6)) (F0 m 212 ls []) := by
  obtain ⟨hx, hb, hml, hown, hts, hr, hlocks, hK⟩ := id hC
  have hl0 := (hll 0 (by omega)).2
  subst hdv
  refine lv_aload_n hx hb dX8_grid_212 rfl (lv_at hl 0 rfl) ?_
  refine zz_get hC hZ 0 rfl zf_X8_103 rfl dX8_grid_213 ?_
  refine lv_istore (lv' := [(14, .int 0), (0, .ref h0), (1, .int x1), (2, .int (nI (D + 1)))]) hx hb dX8_grid_216 hl (by decide) rfl (fun ls hl => ?_)
  refine lv_aload_n hx hb dX8_grid_218 rfl (lv_at hl 1 rfl) ?_
  refine lv_iload_n hx hb dX8_grid_219 rfl (lv_at hl 2 rfl) ?_
  refine lv_iload_n hx hb dX8_grid_220 rfl (lv_at hl 3 rfl) ?_
  refine lv_iconst (v := -1) hx hb dX8_grid_221 (by decide) ?_
  refine lv_aload_n hx hb dX8_grid_222 rfl (lv_at hl 1 rfl) ?_
  refine zz_get hC hZ 0 rfl zf_X8_33 rfl dX8_grid_223 ?_
  refine lv_iconst (v := 0) hx hb dX8_grid_226 (by decide) ?_
  refine zz_iald hC hZ 8 rfl (by unfold vp_in; decide) dX8_grid_227 ?_
  refine zz_topi (v := nI (ll 0)) (by rw [zl_c0]; exact (hll 0 (by omega)).1) ?_
  refine zz_iV (As := [.int x1, .int (nI (D + 1)), .int (-1), .int (nI (ll 0))]) (wc := [(h0, .inr (7, [.int 0, .int 0, .ref a_kindOf, .ref a_depthOf, .ref a_lengthOf, .ref a_classOf, .ref a_baseOf, .ref a_bits, .ref a_pinned, .int 0, .ref a_lengths, .ref a_stackArray, .ref a_stackOther, .ref a_stackAt, .int 0, .int 0, .ref a_path, .ref a_held, .ref a_alike, .ref a_hashes, .int 0, .ref a_decisionArray, .ref a_decisionPlace, .ref a_candidateMany, .ref a_candidates, .int 0, .ref a_ruleSort, .ref a_ruleArray, .ref a_ruleWeight, .ref a_ruleLow, .ref a_ruleHigh, .ref a_chosen, .ref a_bestOf, .int 0, .ref a_markElements, .ref a_markBits, .ref a_markPins])), (a_kindOf, .inl (g.2.1, 60, .inl (fun _ => 0))), (a_depthOf, .inl (g.2.1, 60, .inl (fun _ => 0))), (a_lengthOf, .inl (g.2.1, 60, .inl (fun _ => 0))), (a_classOf, .inl (g.2.1, 60, .inl (fun _ => 0))), (a_baseOf, .inl (g.2.1, 60, .inl (fun _ => 0))), (a_bits, .inl (g.2.2.1, 4000, .inr (.inl (fun _ => 0)))), (a_pinned, .inl (g.2.2.2.1, 4000, .inl (fun _ => 0)))]) (wr := [(a_lengths, .inl (g.2.1, 4, .inl lf)), (a_stackArray, .inl (g.2.1, 5, .inl (fun _ => 0))), (a_stackAt, .inl (g.2.1, 5, .inl (fun _ => 0)))]) (rest := []) hC hZ hl zc_X8_194 (cm_make g h0 a_kindOf a_depthOf a_lengthOf a_classOf a_baseOf a_bits a_pinned a_lengths a_stackArray a_stackOther a_stackAt a_path a_held a_alike a_hashes a_decisionArray a_decisionPlace a_candidateMany a_candidates a_ruleSort a_ruleArray a_ruleWeight a_ruleLow a_ruleHigh a_chosen a_bestOf a_markElements a_markBits a_markPins 0 0 0 0 0 0 0 0 (ll 0) (fun _ => 0) (fun _ => 0) (fun _ => 0) (fun _ => 0) (fun _ => 0) (fun _ => 0) (fun _ => 0) x1 (nI (D + 1)) (-1) (by omega) (by omega)) [0, 1, 2, 3, 4, 5, 6, 7] [8, 9, 10] rfl rfl (by decide) (ci := 7) (q0 := 0) rfl rfl rfl rfl (Nat.le_of_ble_eq_true rfl) ⟨⟨Nat.le_of_ble_eq_true rfl, Nat.le_of_ble_eq_true rfl⟩, Nat.le_of_ble_eq_true rfl, Nat.le_of_ble_eq_true rfl⟩ dX8_grid_228 (fun r22 u23 H locs hp hZ => ?_)
  obtain ⟨bt2_24, pn2_25, rfl, rfl⟩ := hp
  have hZ : zz_Z g A s.heap [(a_lengths, .inl (g.2.1, 4, .inl lf)), (a_stackArray, .inl (g.2.1, 5, .inl (fun _ => 0))), (a_stackAt, .inl (g.2.1, 5, .inl (fun _ => 0))), (h0, .inr (7, [.int (nI (0 + 1)), .int (nI (0 + (ll 0))), .ref a_kindOf, .ref a_depthOf, .ref a_lengthOf, .ref a_classOf, .ref a_baseOf, .ref a_bits, .ref a_pinned, .int 0, .ref a_lengths, .ref a_stackArray, .ref a_stackOther, .ref a_stackAt, .int 0, .int 0, .ref a_path, .ref a_held, .ref a_alike, .ref a_hashes, .int 0, .ref a_decisionArray, .ref a_decisionPlace, .ref a_candidateMany, .ref a_candidates, .int 0, .ref a_ruleSort, .ref a_ruleArray, .ref a_ruleWeight, .ref a_ruleLow, .ref a_ruleHigh, .ref a_chosen, .ref a_bestOf, .int 0, .ref a_markElements, .ref a_markBits, .ref a_markPins])), (a_kindOf, .inl (g.2.1, 60, .inl (upd (fun _ => 0) 0 x1))), (a_depthOf, .inl (g.2.1, 60, .inl (upd (fun _ => 0) 0 (nI (D + 1))))), (a_lengthOf, .inl (g.2.1, 60, .inl (upd (fun _ => 0) 0 (nI (ll 0))))), (a_classOf, .inl (g.2.1, 60, .inl (upd (fun _ => 0) 0 (-1)))), (a_baseOf, .inl (g.2.1, 60, .inl (upd (fun _ => 0) 0 (nI 0)))), (a_bits, .inl (g.2.2.1, 4000, .inr (.inl bt2_24))), (a_pinned, .inl (g.2.2.2.1, 4000, .inl pn2_25))] H locs := hZ
  refine lv_istore (lv' := [(15, .int (nI 0)), (14, .int 0), (0, .ref h0), (1, .int x1), (2, .int (nI (D + 1)))]) hx hb dX8_grid_231 hl (by decide) rfl (fun ls hl => ?_)
  refine lv_iconst (v := 0) hx hb dX8_grid_233 (by decide) ?_
  refine lv_istore (lv' := [(16, .int 0), (15, .int (nI 0)), (14, .int 0), (0, .ref h0), (1, .int x1), (2, .int (nI (D + 1)))]) hx hb dX8_grid_234 hl (by decide) rfl (fun ls hl => ?_)
  refine lv_aload_n hx hb dX8_grid_236 rfl (lv_at hl 3 rfl) ?_
  refine zz_get hC hZ 3 rfl zf_X8_36 rfl dX8_grid_237 ?_
  refine lv_iconst (v := 0) hx hb dX8_grid_240 (by decide) ?_
  refine lv_iload hx hb dX8_grid_241 (lv_at hl 1 rfl) ?_
  refine zz_iast hC hZ 1 rfl (by unfold vp_in; decide) dX8_grid_243 (fun H locs hZ => ?_)
  rw [zl_c0] at hZ
  have hZ : zz_Z g A s.heap [(a_lengths, .inl (g.2.1, 4, .inl lf)), (a_stackArray, .inl (g.2.1, 5, .inl (upd (fun _ => 0) 0 (nI 0)))), (a_stackAt, .inl (g.2.1, 5, .inl (fun _ => 0))), (h0, .inr (7, [.int (nI (0 + 1)), .int (nI (0 + (ll 0))), .ref a_kindOf, .ref a_depthOf, .ref a_lengthOf, .ref a_classOf, .ref a_baseOf, .ref a_bits, .ref a_pinned, .int 0, .ref a_lengths, .ref a_stackArray, .ref a_stackOther, .ref a_stackAt, .int 0, .int 0, .ref a_path, .ref a_held, .ref a_alike, .ref a_hashes, .int 0, .ref a_decisionArray, .ref a_decisionPlace, .ref a_candidateMany, .ref a_candidates, .int 0, .ref a_ruleSort, .ref a_ruleArray, .ref a_ruleWeight, .ref a_ruleLow, .ref a_ruleHigh, .ref a_chosen, .ref a_bestOf, .int 0, .ref a_markElements, .ref a_markBits, .ref a_markPins])), (a_kindOf, .inl (g.2.1, 60, .inl (upd (fun _ => 0) 0 x1))), (a_depthOf, .inl (g.2.1, 60, .inl (upd (fun _ => 0) 0 (nI (D + 1))))), (a_lengthOf, .inl (g.2.1, 60, .inl (upd (fun _ => 0) 0 (nI (ll 0))))), (a_classOf, .inl (g.2.1, 60, .inl (upd (fun _ => 0) 0 (-1)))), (a_baseOf, .inl (g.2.1, 60, .inl (upd (fun _ => 0) 0 (nI 0)))), (a_bits, .inl (g.2.2.1, 4000, .inr (.inl bt2_24))), (a_pinned, .inl (g.2.2.2.1, 4000, .inl pn2_25))] H locs := hZ
  refine lv_aload_n hx hb dX8_grid_244 rfl (lv_at hl 3 rfl) ?_
  refine zz_get hC hZ 3 rfl zf_X8_42 rfl dX8_grid_245 ?_
  refine lv_iconst (v := 0) hx hb dX8_grid_248 (by decide) ?_
  refine lv_iconst (v := 0) hx hb dX8_grid_249 (by decide) ?_
  refine zz_iast hC hZ 2 rfl (by unfold vp_in; decide) dX8_grid_250 (fun H locs hZ => ?_)
  rw [zl_c0] at hZ
  have hZ : zz_Z g A s.heap [(a_lengths, .inl (g.2.1, 4, .inl lf)), (a_stackArray, .inl (g.2.1, 5, .inl (upd (fun _ => 0) 0 (nI 0)))), (a_stackAt, .inl (g.2.1, 5, .inl (upd (fun _ => 0) 0 0))), (h0, .inr (7, [.int (nI (0 + 1)), .int (nI (0 + (ll 0))), .ref a_kindOf, .ref a_depthOf, .ref a_lengthOf, .ref a_classOf, .ref a_baseOf, .ref a_bits, .ref a_pinned, .int 0, .ref a_lengths, .ref a_stackArray, .ref a_stackOther, .ref a_stackAt, .int 0, .int 0, .ref a_path, .ref a_held, .ref a_alike, .ref a_hashes, .int 0, .ref a_decisionArray, .ref a_decisionPlace, .ref a_candidateMany, .ref a_candidates, .int 0, .ref a_ruleSort, .ref a_ruleArray, .ref a_ruleWeight, .ref a_ruleLow, .ref a_ruleHigh, .ref a_chosen, .ref a_bestOf, .int 0, .ref a_markElements, .ref a_markBits, .ref a_markPins])), (a_kindOf, .inl (g.2.1, 60, .inl (upd (fun _ => 0) 0 x1))), (a_depthOf, .inl (g.2.1, 60, .inl (upd (fun _ => 0) 0 (nI (D + 1))))), (a_lengthOf, .inl (g.2.1, 60, .inl (upd (fun _ => 0) 0 (nI (ll 0))))), (a_classOf, .inl (g.2.1, 60, .inl (upd (fun _ => 0) 0 (-1)))), (a_baseOf, .inl (g.2.1, 60, .inl (upd (fun _ => 0) 0 (nI 0)))), (a_bits, .inl (g.2.2.1, 4000, .inr (.inl bt2_24))), (a_pinned, .inl (g.2.2.2.1, 4000, .inl pn2_25))] H locs := hZ
  have hR1 := zz_R1T (ll := ll) (D := D)
  have hR2 := zz_R1E (ll := ll) (D := D)
  have LP26 : ∀ (N : Nat) (lev : Int32) (L : Nat) (na : Nat) (ne : Nat) (av : Nat → Nat) (kdf : Nat → Int32) (dpf : Nat → Int32) (lnf : Nat → Int32) (clf : Nat → Int32) (baf : Nat → Int32) (btf : Nat → Int64) (pnf : Nat → Int32) (skf : Nat → Int32) (atf : Nat → Int32) (H : Heap) (locs : List Loc) (ls : Array Slot), (lev = nI L + (-1)) → (L ≤ D + 1) → (zz_In ll av na skf atf lnf baf L) → (na + zz_R (zz_TF ll D) ll av L ≤ 60) → (ne + zz_R (zz_EF ll D) ll av L ≤ 4000) → (2 * zz_R (zz_TF ll D) ll av L + L) < N → zz_Z g A s.heap [(a_lengths, .inl (g.2.1, 4, .inl lf)), (a_stackArray, .inl (g.2.1, 5, .inl skf)), (a_stackAt, .inl (g.2.1, 5, .inl atf)), (h0, .inr (7, [.int (nI na), .int (nI ne), .ref a_kindOf, .ref a_depthOf, .ref a_lengthOf, .ref a_classOf, .ref a_baseOf, .ref a_bits, .ref a_pinned, .int 0, .ref a_lengths, .ref a_stackArray, .ref a_stackOther, .ref a_stackAt, .int 0, .int 0, .ref a_path, .ref a_held, .ref a_alike, .ref a_hashes, .int 0, .ref a_decisionArray, .ref a_decisionPlace, .ref a_candidateMany, .ref a_candidates, .int 0, .ref a_ruleSort, .ref a_ruleArray, .ref a_ruleWeight, .ref a_ruleLow, .ref a_ruleHigh, .ref a_chosen, .ref a_bestOf, .int 0, .ref a_markElements, .ref a_markBits, .ref a_markPins])), (a_kindOf, .inl (g.2.1, 60, .inl kdf)), (a_depthOf, .inl (g.2.1, 60, .inl dpf)), (a_lengthOf, .inl (g.2.1, 60, .inl lnf)), (a_classOf, .inl (g.2.1, 60, .inl clf)), (a_baseOf, .inl (g.2.1, 60, .inl baf)), (a_bits, .inl (g.2.2.1, 4000, .inr (.inl btf))), (a_pinned, .inl (g.2.2.2.1, 4000, .inl pnf))] H locs → lv_has ls 19 [(16, .int lev), (15, .int (nI 0)), (14, .int 0), (0, .ref h0), (1, .int x1), (2, .int (nI (D + 1)))] → W p l e rm_my_grid s m args below meth c H locs 0 0 (zz_QI below g args s A rm_my_grid.cells rm_my_grid.slots (po_my_grid g h0 a_kindOf a_depthOf a_lengthOf a_classOf a_baseOf a_bits a_pinned a_lengths a_stackArray a_stackOther a_stackAt a_path a_held a_alike a_hashes a_decisionArray a_decisionPlace a_candidateMany a_candidates a_ruleSort a_ruleArray a_ruleWeight a_ruleLow a_ruleHigh a_chosen a_bestOf a_markElements a_markBits a_markPins x1 x2 x3 x4 x5 x6)) (F0 m 251 ls []) := by
    intro N
    induction N with
    | zero =>
      intro lev L na ne av kdf dpf lnf clf baf btf pnf skf atf H locs ls hv0 hv1 hI hv3 hv4 hN
      exact absurd hN (Nat.not_lt_zero _)
    | succ N ih =>
      intro lev L na ne av kdf dpf lnf clf baf btf pnf skf atf H locs ls hv0 hv1 hI hv3 hv4 hN hZ hl
      refine lv_iload hx hb dX8_grid_251 (lv_at hl 0 rfl) ?_
      refine lv_if_lt (tgt := 376) hx hb dX8_grid_253 (by decide) (fun c27 => ?_) (fun c27 => ?_)
      · refine lv_aload_n hx hb dX8_grid_376 rfl (lv_at hl 3 rfl) ?_
        refine lv_iload hx hb dX8_grid_377 (lv_at hl 2 rfl) ?_
        refine zz_iV (As := [.int 0]) (wc := [(h0, .inr (7, [.int (nI na), .int (nI ne), .ref a_kindOf, .ref a_depthOf, .ref a_lengthOf, .ref a_classOf, .ref a_baseOf, .ref a_bits, .ref a_pinned, .int 0, .ref a_lengths, .ref a_stackArray, .ref a_stackOther, .ref a_stackAt, .int 0, .int 0, .ref a_path, .ref a_held, .ref a_alike, .ref a_hashes, .int 0, .ref a_decisionArray, .ref a_decisionPlace, .ref a_candidateMany, .ref a_candidates, .int 0, .ref a_ruleSort, .ref a_ruleArray, .ref a_ruleWeight, .ref a_ruleLow, .ref a_ruleHigh, .ref a_chosen, .ref a_bestOf, .int 0, .ref a_markElements, .ref a_markBits, .ref a_markPins]))]) (wr := [(a_lengths, .inl (g.2.1, 4, .inl lf)), (a_stackArray, .inl (g.2.1, 5, .inl skf)), (a_stackAt, .inl (g.2.1, 5, .inl atf)), (a_kindOf, .inl (g.2.1, 60, .inl kdf)), (a_depthOf, .inl (g.2.1, 60, .inl dpf)), (a_lengthOf, .inl (g.2.1, 60, .inl lnf)), (a_classOf, .inl (g.2.1, 60, .inl clf)), (a_baseOf, .inl (g.2.1, 60, .inl baf)), (a_bits, .inl (g.2.2.1, 4000, .inr (.inl btf))), (a_pinned, .inl (g.2.2.2.1, 4000, .inl pnf))]) (rest := []) hC hZ hl zc_X8_183 (cm_fine g h0 a_kindOf a_depthOf a_lengthOf a_classOf a_baseOf a_bits a_pinned a_lengths a_stackArray a_stackOther a_stackAt a_path a_held a_alike a_hashes a_decisionArray a_decisionPlace a_candidateMany a_candidates a_ruleSort a_ruleArray a_ruleWeight a_ruleLow a_ruleHigh a_chosen a_bestOf a_markElements a_markBits a_markPins (nI na) (nI ne) 0 0 0 0 0 0 0) [3] [0, 1, 2, 4, 5, 6, 7, 8, 9, 10] rfl rfl (by decide) (ci := 7) (q0 := 0) rfl rfl rfl rfl (Nat.le_of_ble_eq_true rfl) ⟨⟨Nat.le_of_ble_eq_true rfl, Nat.le_of_ble_eq_true rfl⟩, Nat.le_of_ble_eq_true rfl, Nat.le_of_ble_eq_true rfl⟩ dX8_grid_379 (fun r28 u29 H locs hp hZ => ?_)
        obtain ⟨rfl, rfl⟩ := hp
        have hZ : zz_Z g A s.heap [(a_lengths, .inl (g.2.1, 4, .inl lf)), (a_stackArray, .inl (g.2.1, 5, .inl skf)), (a_stackAt, .inl (g.2.1, 5, .inl atf)), (a_kindOf, .inl (g.2.1, 60, .inl kdf)), (a_depthOf, .inl (g.2.1, 60, .inl dpf)), (a_lengthOf, .inl (g.2.1, 60, .inl lnf)), (a_classOf, .inl (g.2.1, 60, .inl clf)), (a_baseOf, .inl (g.2.1, 60, .inl baf)), (a_bits, .inl (g.2.2.1, 4000, .inr (.inl btf))), (a_pinned, .inl (g.2.2.2.1, 4000, .inl pnf)), (h0, .inr (7, [.int (nI na), .int (nI ne), .ref a_kindOf, .ref a_depthOf, .ref a_lengthOf, .ref a_classOf, .ref a_baseOf, .ref a_bits, .ref a_pinned, .int 0, .ref a_lengths, .ref a_stackArray, .ref a_stackOther, .ref a_stackAt, .int 0, .int 0, .ref a_path, .ref a_held, .ref a_alike, .ref a_hashes, .int 0, .ref a_decisionArray, .ref a_decisionPlace, .ref a_candidateMany, .ref a_candidates, .int 0, .ref a_ruleSort, .ref a_ruleArray, .ref a_ruleWeight, .ref a_ruleLow, .ref a_ruleHigh, .ref a_chosen, .ref a_bestOf, .int 0, .ref a_markElements, .ref a_markBits, .ref a_markPins]))] H locs := hZ
        exact zz_iret hC hZ (eB.symm) (Nat.le_of_ble_eq_true rfl) (Nat.le_of_ble_eq_true rfl) dX8_grid_382
      · obtain ⟨K, rfl⟩ := zl_lev hv0 c27
        rw [pk_m1] at hv0
        subst hv0
        obtain ⟨sA, bA, i1, i2, i3, i4, i5, i6, i7⟩ := hI K (by omega)
        have hlK := (hll K (by omega)).2
        have hz1 : zz_R (zz_TF ll D) ll av (K + 1) = zz_R (zz_TF ll D) ll av K + (ll K - av K) * zz_TF ll D (K + 1) := by rw [zz_R]
        have hz2 : zz_R (zz_EF ll D) ll av (K + 1) = zz_R (zz_EF ll D) ll av K + (ll K - av K) * zz_EF ll D (K + 1) := by rw [zz_R]
        refine lv_aload_n hx hb dX8_grid_256 rfl (lv_at hl 3 rfl) ?_
        refine zz_get hC hZ 3 rfl zf_X8_36 rfl dX8_grid_257 ?_
        refine lv_iload hx hb dX8_grid_260 (lv_at hl 0 rfl) ?_
        refine zz_iald hC hZ 1 rfl (vp_in_nI (by omega) (by decide)) dX8_grid_262 ?_
        rw [nI_clamp (n := K) (by omega)]
        refine zz_topi (v := nI sA) (i1) ?_
        refine lv_istore (lv' := [(17, .int (nI sA)), (16, .int (nI K)), (15, .int (nI 0)), (14, .int 0), (0, .ref h0), (1, .int x1), (2, .int (nI (D + 1)))]) hx hb dX8_grid_263 hl (by decide) rfl (fun ls hl => ?_)
        refine lv_iload hx hb dX8_grid_265 (lv_at hl 1 rfl) ?_
        refine lv_iload_n hx hb dX8_grid_267 rfl (lv_at hl 6 rfl) ?_
        refine lv_iconst (v := 1) hx hb dX8_grid_268 (by decide) ?_
        refine lv_isub hx hb dX8_grid_269 ?_
        refine zz_topi (v := nI D) (nI_pred _) ?_
        refine lv_icmp_eq (tgt := 290) hx hb dX8_grid_270 (by decide) (fun c30 => ?_) (fun c30 => ?_)
        · have nc30 : K = D := (nI_eq (by omega) (by omega)).mp (show nI (K) = nI (D) from c30)
          refine lv_iinc (v := (nI K) + (-1)) (lv' := [(16, .int ((nI K) + (-1))), (17, .int (nI sA)), (15, .int (nI 0)), (14, .int 0), (0, .ref h0), (1, .int x1), (2, .int (nI (D + 1)))]) hx hb dX8_grid_290 hl (k := 1) rfl (by first | rfl | decide) (by decide) rfl (fun ls hl => ?_)
          refine lv_goto (tgt := 251) hx hb dX8_grid_293 (by decide) ?_
          exact ih ((nI K) + (-1)) K na ne av kdf dpf lnf clf baf btf pnf skf atf H locs ls (rfl) (by omega) (zz_In_pop hI) (by omega) (by omega) (by omega) hZ (lv_sub hl [0, 2, 3, 4, 5, 6] rfl)
        · have nc30 : ¬ K = D := fun q => c30 (show nI (K) = nI (D) from (nI_eq (by omega) (by omega)).mpr q)
          refine lv_aload_n hx hb dX8_grid_273 rfl (lv_at hl 4 rfl) ?_
          refine zz_get hC hZ 3 rfl zf_X8_42 rfl dX8_grid_274 ?_
          refine lv_iload hx hb dX8_grid_277 (lv_at hl 1 rfl) ?_
          refine zz_iald hC hZ 2 rfl (vp_in_nI (by omega) (by decide)) dX8_grid_279 ?_
          rw [nI_clamp (n := K) (by omega)]
          refine zz_topi (v := nI (av K)) (i6) ?_
          refine lv_aload_n hx hb dX8_grid_280 rfl (lv_at hl 4 rfl) ?_
          refine zz_get hC hZ 3 rfl zf_X8_16 rfl dX8_grid_281 ?_
          refine lv_iload hx hb dX8_grid_284 (lv_at hl 0 rfl) ?_
          refine zz_iald hC hZ 6 rfl (vp_in_nI (by omega) (by decide)) dX8_grid_286 ?_
          rw [nI_clamp (n := sA) (by omega)]
          refine zz_topi (v := nI (ll K)) (i3) ?_
          refine lv_icmp_ne (tgt := 296) hx hb dX8_grid_287 (by decide) (fun c31 => ?_) (fun c31 => ?_)
          · have nc31 : ¬ (av K) = (ll K) := fun q => c31 (show nI ((av K)) = nI ((ll K)) from (nI_eq (by omega) (by omega)).mpr q)
            have hav : av K < ll K := by omega
            have hl1 := (hll (K + 1) (by omega)).2
            have hpT := zz_R_push (av := av) (K := K) (zz_TF_r (ll := ll) (D := D) (j := K + 1) (by omega)) hav
            have hpE := zz_R_push (av := av) (K := K) (zz_EF_r (ll := ll) (D := D) (j := K + 1) (by omega)) hav
            refine lv_aload_n hx hb dX8_grid_296 rfl (lv_at hl 4 rfl) ?_
            refine lv_iload_n hx hb dX8_grid_297 rfl (lv_at hl 5 rfl) ?_
            refine lv_iload_n hx hb dX8_grid_298 rfl (lv_at hl 6 rfl) ?_
            refine lv_iload hx hb dX8_grid_299 (lv_at hl 1 rfl) ?_
            refine lv_isub hx hb dX8_grid_301 ?_
            refine lv_iconst (v := 1) hx hb dX8_grid_302 (by decide) ?_
            refine lv_isub hx hb dX8_grid_303 ?_
            refine lv_iconst (v := -1) hx hb dX8_grid_304 (by decide) ?_
            refine lv_aload_n hx hb dX8_grid_305 rfl (lv_at hl 4 rfl) ?_
            refine zz_get hC hZ 3 rfl zf_X8_33 rfl dX8_grid_306 ?_
            refine lv_iload hx hb dX8_grid_309 (lv_at hl 1 rfl) ?_
            refine lv_iconst (v := 1) hx hb dX8_grid_311 (by decide) ?_
            refine lv_iadd hx hb dX8_grid_312 ?_
            refine zz_topi (v := nI (K + 1)) (nI_1 _) ?_
            refine zz_iald hC hZ 0 rfl (vp_in_nI (by omega) (by decide)) dX8_grid_313 ?_
            rw [nI_clamp (n := (K + 1)) (by omega)]
            refine zz_topi (v := nI (ll (K + 1))) ((hll (K + 1) (by omega)).1) ?_
            refine zz_iV (As := [.int x1, .int (((nI (D + 1)) - (nI K)) - 1), .int (-1), .int (nI (ll (K + 1)))]) (wc := [(h0, .inr (7, [.int (nI na), .int (nI ne), .ref a_kindOf, .ref a_depthOf, .ref a_lengthOf, .ref a_classOf, .ref a_baseOf, .ref a_bits, .ref a_pinned, .int 0, .ref a_lengths, .ref a_stackArray, .ref a_stackOther, .ref a_stackAt, .int 0, .int 0, .ref a_path, .ref a_held, .ref a_alike, .ref a_hashes, .int 0, .ref a_decisionArray, .ref a_decisionPlace, .ref a_candidateMany, .ref a_candidates, .int 0, .ref a_ruleSort, .ref a_ruleArray, .ref a_ruleWeight, .ref a_ruleLow, .ref a_ruleHigh, .ref a_chosen, .ref a_bestOf, .int 0, .ref a_markElements, .ref a_markBits, .ref a_markPins])), (a_kindOf, .inl (g.2.1, 60, .inl kdf)), (a_depthOf, .inl (g.2.1, 60, .inl dpf)), (a_lengthOf, .inl (g.2.1, 60, .inl lnf)), (a_classOf, .inl (g.2.1, 60, .inl clf)), (a_baseOf, .inl (g.2.1, 60, .inl baf)), (a_bits, .inl (g.2.2.1, 4000, .inr (.inl btf))), (a_pinned, .inl (g.2.2.2.1, 4000, .inl pnf))]) (wr := [(a_lengths, .inl (g.2.1, 4, .inl lf)), (a_stackArray, .inl (g.2.1, 5, .inl skf)), (a_stackAt, .inl (g.2.1, 5, .inl atf))]) (rest := []) hC hZ hl zc_X8_194 (cm_make g h0 a_kindOf a_depthOf a_lengthOf a_classOf a_baseOf a_bits a_pinned a_lengths a_stackArray a_stackOther a_stackAt a_path a_held a_alike a_hashes a_decisionArray a_decisionPlace a_candidateMany a_candidates a_ruleSort a_ruleArray a_ruleWeight a_ruleLow a_ruleHigh a_chosen a_bestOf a_markElements a_markBits a_markPins 0 0 0 0 0 0 na ne (ll (K + 1)) kdf dpf lnf clf baf btf pnf x1 (((nI (D + 1)) - (nI K)) - 1) (-1) (by omega) (by omega)) [3, 4, 5, 6, 7, 8, 9, 10] [0, 1, 2] rfl rfl (by decide) (ci := 7) (q0 := 0) rfl rfl rfl rfl (Nat.le_of_ble_eq_true rfl) ⟨⟨Nat.le_of_ble_eq_true rfl, Nat.le_of_ble_eq_true rfl⟩, Nat.le_of_ble_eq_true rfl, Nat.le_of_ble_eq_true rfl⟩ dX8_grid_314 (fun r32 u33 H locs hp hZ => ?_)
            obtain ⟨bt2_34, pn2_35, rfl, rfl⟩ := hp
            have hZ : zz_Z g A s.heap [(a_lengths, .inl (g.2.1, 4, .inl lf)), (a_stackArray, .inl (g.2.1, 5, .inl skf)), (a_stackAt, .inl (g.2.1, 5, .inl atf)), (h0, .inr (7, [.int (nI (na + 1)), .int (nI (ne + (ll (K + 1)))), .ref a_kindOf, .ref a_depthOf, .ref a_lengthOf, .ref a_classOf, .ref a_baseOf, .ref a_bits, .ref a_pinned, .int 0, .ref a_lengths, .ref a_stackArray, .ref a_stackOther, .ref a_stackAt, .int 0, .int 0, .ref a_path, .ref a_held, .ref a_alike, .ref a_hashes, .int 0, .ref a_decisionArray, .ref a_decisionPlace, .ref a_candidateMany, .ref a_candidates, .int 0, .ref a_ruleSort, .ref a_ruleArray, .ref a_ruleWeight, .ref a_ruleLow, .ref a_ruleHigh, .ref a_chosen, .ref a_bestOf, .int 0, .ref a_markElements, .ref a_markBits, .ref a_markPins])), (a_kindOf, .inl (g.2.1, 60, .inl (upd kdf na x1))), (a_depthOf, .inl (g.2.1, 60, .inl (upd dpf na (((nI (D + 1)) - (nI K)) - 1)))), (a_lengthOf, .inl (g.2.1, 60, .inl (upd lnf na (nI (ll (K + 1)))))), (a_classOf, .inl (g.2.1, 60, .inl (upd clf na (-1)))), (a_baseOf, .inl (g.2.1, 60, .inl (upd baf na (nI ne)))), (a_bits, .inl (g.2.2.1, 4000, .inr (.inl bt2_34))), (a_pinned, .inl (g.2.2.2.1, 4000, .inl pn2_35))] H locs := hZ
            refine lv_istore (lv' := [(18, .int (nI na)), (17, .int (nI sA)), (16, .int (nI K)), (15, .int (nI 0)), (14, .int 0), (0, .ref h0), (1, .int x1), (2, .int (nI (D + 1)))]) hx hb dX8_grid_317 hl (by decide) rfl (fun ls hl => ?_)
            refine lv_aload_n hx hb dX8_grid_319 rfl (lv_at hl 5 rfl) ?_
            refine zz_get hC hZ 3 rfl zf_X8_25 rfl dX8_grid_320 ?_
            refine lv_aload_n hx hb dX8_grid_323 rfl (lv_at hl 5 rfl) ?_
            refine zz_get hC hZ 3 rfl zf_X8_22 rfl dX8_grid_324 ?_
            refine lv_iload hx hb dX8_grid_327 (lv_at hl 1 rfl) ?_
            refine zz_iald hC hZ 8 rfl (vp_in_nI (by omega) (by decide)) dX8_grid_329 ?_
            rw [nI_clamp (n := sA) (by omega)]
            refine zz_topi (v := nI bA) ((pk_un (by omega)).trans i4) ?_
            refine lv_aload_n hx hb dX8_grid_330 rfl (lv_at hl 5 rfl) ?_
            refine zz_get hC hZ 3 rfl zf_X8_42 rfl dX8_grid_331 ?_
            refine lv_iload hx hb dX8_grid_334 (lv_at hl 2 rfl) ?_
            refine zz_iald hC hZ 2 rfl (vp_in_nI (by omega) (by decide)) dX8_grid_336 ?_
            rw [nI_clamp (n := K) (by omega)]
            refine zz_topi (v := nI (av K)) (i6) ?_
            refine lv_iadd hx hb dX8_grid_337 ?_
            refine zz_topi (v := nI (bA + (av K))) (nI_add _ _) ?_
            refine lv_iload hx hb dX8_grid_338 (lv_at hl 0 rfl) ?_
            refine lv_i2l hx hb dX8_grid_340 rfl ?_
            refine zz_last hC hZ 9 rfl (vp_in_nI (by omega) (by decide)) dX8_grid_341 (fun H locs hZ => ?_)
            rw [nI_clamp (n := (bA + (av K))) (by omega)] at hZ
            have hZ : zz_Z g A s.heap [(a_lengths, .inl (g.2.1, 4, .inl lf)), (a_stackArray, .inl (g.2.1, 5, .inl skf)), (a_stackAt, .inl (g.2.1, 5, .inl atf)), (h0, .inr (7, [.int (nI (na + 1)), .int (nI (ne + (ll (K + 1)))), .ref a_kindOf, .ref a_depthOf, .ref a_lengthOf, .ref a_classOf, .ref a_baseOf, .ref a_bits, .ref a_pinned, .int 0, .ref a_lengths, .ref a_stackArray, .ref a_stackOther, .ref a_stackAt, .int 0, .int 0, .ref a_path, .ref a_held, .ref a_alike, .ref a_hashes, .int 0, .ref a_decisionArray, .ref a_decisionPlace, .ref a_candidateMany, .ref a_candidates, .int 0, .ref a_ruleSort, .ref a_ruleArray, .ref a_ruleWeight, .ref a_ruleLow, .ref a_ruleHigh, .ref a_chosen, .ref a_bestOf, .int 0, .ref a_markElements, .ref a_markBits, .ref a_markPins])), (a_kindOf, .inl (g.2.1, 60, .inl (upd kdf na x1))), (a_depthOf, .inl (g.2.1, 60, .inl (upd dpf na (((nI (D + 1)) - (nI K)) - 1)))), (a_lengthOf, .inl (g.2.1, 60, .inl (upd lnf na (nI (ll (K + 1)))))), (a_classOf, .inl (g.2.1, 60, .inl (upd clf na (-1)))), (a_baseOf, .inl (g.2.1, 60, .inl (upd baf na (nI ne)))), (a_bits, .inl (g.2.2.1, 4000, .inr (.inl (vp_updL bt2_34 (bA + (av K)) ((nI na).toInt64))))), (a_pinned, .inl (g.2.2.2.1, 4000, .inl pn2_35))] H locs := hZ
            refine lv_aload_n hx hb dX8_grid_342 rfl (lv_at hl 5 rfl) ?_
            refine zz_get hC hZ 3 rfl zf_X8_42 rfl dX8_grid_343 ?_
            refine lv_iload hx hb dX8_grid_346 (lv_at hl 2 rfl) ?_
            refine lv_dup2_11 hx hb dX8_grid_348 rfl rfl ?_
            refine zz_iald hC hZ 2 rfl (vp_in_nI (by omega) (by decide)) dX8_grid_349 ?_
            rw [nI_clamp (n := K) (by omega)]
            refine zz_topi (v := nI (av K)) (i6) ?_
            refine lv_iconst (v := 1) hx hb dX8_grid_350 (by decide) ?_
            refine lv_iadd hx hb dX8_grid_351 ?_
            refine zz_topi (v := nI ((av K) + 1)) (nI_1 _) ?_
            refine zz_iast hC hZ 2 rfl (vp_in_nI (by omega) (by decide)) dX8_grid_352 (fun H locs hZ => ?_)
            rw [nI_clamp (n := K) (by omega)] at hZ
            have hZ : zz_Z g A s.heap [(a_lengths, .inl (g.2.1, 4, .inl lf)), (a_stackArray, .inl (g.2.1, 5, .inl skf)), (a_stackAt, .inl (g.2.1, 5, .inl (upd atf K (nI ((av K) + 1))))), (h0, .inr (7, [.int (nI (na + 1)), .int (nI (ne + (ll (K + 1)))), .ref a_kindOf, .ref a_depthOf, .ref a_lengthOf, .ref a_classOf, .ref a_baseOf, .ref a_bits, .ref a_pinned, .int 0, .ref a_lengths, .ref a_stackArray, .ref a_stackOther, .ref a_stackAt, .int 0, .int 0, .ref a_path, .ref a_held, .ref a_alike, .ref a_hashes, .int 0, .ref a_decisionArray, .ref a_decisionPlace, .ref a_candidateMany, .ref a_candidates, .int 0, .ref a_ruleSort, .ref a_ruleArray, .ref a_ruleWeight, .ref a_ruleLow, .ref a_ruleHigh, .ref a_chosen, .ref a_bestOf, .int 0, .ref a_markElements, .ref a_markBits, .ref a_markPins])), (a_kindOf, .inl (g.2.1, 60, .inl (upd kdf na x1))), (a_depthOf, .inl (g.2.1, 60, .inl (upd dpf na (((nI (D + 1)) - (nI K)) - 1)))), (a_lengthOf, .inl (g.2.1, 60, .inl (upd lnf na (nI (ll (K + 1)))))), (a_classOf, .inl (g.2.1, 60, .inl (upd clf na (-1)))), (a_baseOf, .inl (g.2.1, 60, .inl (upd baf na (nI ne)))), (a_bits, .inl (g.2.2.1, 4000, .inr (.inl (vp_updL bt2_34 (bA + (av K)) ((nI na).toInt64))))), (a_pinned, .inl (g.2.2.2.1, 4000, .inl pn2_35))] H locs := hZ
            refine lv_iinc (v := nI (K + 1)) (lv' := [(16, .int (nI (K + 1))), (18, .int (nI na)), (17, .int (nI sA)), (15, .int (nI 0)), (14, .int 0), (0, .ref h0), (1, .int x1), (2, .int (nI (D + 1)))]) hx hb dX8_grid_353 hl (k := 2) rfl (nI_1 _) (by decide) rfl (fun ls hl => ?_)
            refine lv_aload_n hx hb dX8_grid_356 rfl (lv_at hl 5 rfl) ?_
            refine zz_get hC hZ 3 rfl zf_X8_36 rfl dX8_grid_357 ?_
            refine lv_iload hx hb dX8_grid_360 (lv_at hl 0 rfl) ?_
            refine lv_iload hx hb dX8_grid_362 (lv_at hl 1 rfl) ?_
            refine zz_iast hC hZ 1 rfl (vp_in_nI (by omega) (by decide)) dX8_grid_364 (fun H locs hZ => ?_)
            rw [nI_clamp (n := (K + 1)) (by omega)] at hZ
            have hZ : zz_Z g A s.heap [(a_lengths, .inl (g.2.1, 4, .inl lf)), (a_stackArray, .inl (g.2.1, 5, .inl (upd skf (K + 1) (nI na)))), (a_stackAt, .inl (g.2.1, 5, .inl (upd atf K (nI ((av K) + 1))))), (h0, .inr (7, [.int (nI (na + 1)), .int (nI (ne + (ll (K + 1)))), .ref a_kindOf, .ref a_depthOf, .ref a_lengthOf, .ref a_classOf, .ref a_baseOf, .ref a_bits, .ref a_pinned, .int 0, .ref a_lengths, .ref a_stackArray, .ref a_stackOther, .ref a_stackAt, .int 0, .int 0, .ref a_path, .ref a_held, .ref a_alike, .ref a_hashes, .int 0, .ref a_decisionArray, .ref a_decisionPlace, .ref a_candidateMany, .ref a_candidates, .int 0, .ref a_ruleSort, .ref a_ruleArray, .ref a_ruleWeight, .ref a_ruleLow, .ref a_ruleHigh, .ref a_chosen, .ref a_bestOf, .int 0, .ref a_markElements, .ref a_markBits, .ref a_markPins])), (a_kindOf, .inl (g.2.1, 60, .inl (upd kdf na x1))), (a_depthOf, .inl (g.2.1, 60, .inl (upd dpf na (((nI (D + 1)) - (nI K)) - 1)))), (a_lengthOf, .inl (g.2.1, 60, .inl (upd lnf na (nI (ll (K + 1)))))), (a_classOf, .inl (g.2.1, 60, .inl (upd clf na (-1)))), (a_baseOf, .inl (g.2.1, 60, .inl (upd baf na (nI ne)))), (a_bits, .inl (g.2.2.1, 4000, .inr (.inl (vp_updL bt2_34 (bA + (av K)) ((nI na).toInt64))))), (a_pinned, .inl (g.2.2.2.1, 4000, .inl pn2_35))] H locs := hZ
            refine lv_aload_n hx hb dX8_grid_365 rfl (lv_at hl 5 rfl) ?_
            refine zz_get hC hZ 3 rfl zf_X8_42 rfl dX8_grid_366 ?_
            refine lv_iload hx hb dX8_grid_369 (lv_at hl 0 rfl) ?_
            refine lv_iconst (v := 0) hx hb dX8_grid_371 (by decide) ?_
            refine zz_iast hC hZ 2 rfl (vp_in_nI (by omega) (by decide)) dX8_grid_372 (fun H locs hZ => ?_)
            rw [nI_clamp (n := (K + 1)) (by omega)] at hZ
            have hZ : zz_Z g A s.heap [(a_lengths, .inl (g.2.1, 4, .inl lf)), (a_stackArray, .inl (g.2.1, 5, .inl (upd skf (K + 1) (nI na)))), (a_stackAt, .inl (g.2.1, 5, .inl (upd (upd atf K (nI ((av K) + 1))) (K + 1) 0))), (h0, .inr (7, [.int (nI (na + 1)), .int (nI (ne + (ll (K + 1)))), .ref a_kindOf, .ref a_depthOf, .ref a_lengthOf, .ref a_classOf, .ref a_baseOf, .ref a_bits, .ref a_pinned, .int 0, .ref a_lengths, .ref a_stackArray, .ref a_stackOther, .ref a_stackAt, .int 0, .int 0, .ref a_path, .ref a_held, .ref a_alike, .ref a_hashes, .int 0, .ref a_decisionArray, .ref a_decisionPlace, .ref a_candidateMany, .ref a_candidates, .int 0, .ref a_ruleSort, .ref a_ruleArray, .ref a_ruleWeight, .ref a_ruleLow, .ref a_ruleHigh, .ref a_chosen, .ref a_bestOf, .int 0, .ref a_markElements, .ref a_markBits, .ref a_markPins])), (a_kindOf, .inl (g.2.1, 60, .inl (upd kdf na x1))), (a_depthOf, .inl (g.2.1, 60, .inl (upd dpf na (((nI (D + 1)) - (nI K)) - 1)))), (a_lengthOf, .inl (g.2.1, 60, .inl (upd lnf na (nI (ll (K + 1)))))), (a_classOf, .inl (g.2.1, 60, .inl (upd clf na (-1)))), (a_baseOf, .inl (g.2.1, 60, .inl (upd baf na (nI ne)))), (a_bits, .inl (g.2.2.1, 4000, .inr (.inl (vp_updL bt2_34 (bA + (av K)) ((nI na).toInt64))))), (a_pinned, .inl (g.2.2.2.1, 4000, .inl pn2_35))] H locs := hZ
            refine lv_goto (tgt := 251) hx hb dX8_grid_373 (by decide) ?_
            exact ih (nI (K + 1)) (K + 2) (na + 1) (ne + (ll (K + 1))) (zz_av av K) (upd kdf na x1) (upd dpf na (((nI (D + 1)) - (nI K)) - 1)) (upd lnf na (nI (ll (K + 1)))) (upd clf na (-1)) (upd baf na (nI ne)) (vp_updL bt2_34 (bA + (av K)) ((nI na).toInt64)) pn2_35 (upd skf (K + 1) (nI na)) (upd (upd atf K (nI ((av K) + 1))) (K + 1) 0) H locs ls ((pk_m1 _).symm) (by omega) (zz_In_push hI hav (by omega)) (by omega) (by omega) (by omega) hZ (lv_sub hl [0, 3, 4, 5, 6, 7] rfl)
          · have nc31 : (av K) = (ll K) := (nI_eq (by omega) (by omega)).mp (show nI ((av K)) = nI ((ll K)) from c31)
            refine lv_iinc (v := (nI K) + (-1)) (lv' := [(16, .int ((nI K) + (-1))), (17, .int (nI sA)), (15, .int (nI 0)), (14, .int 0), (0, .ref h0), (1, .int x1), (2, .int (nI (D + 1)))]) hx hb dX8_grid_290 hl (k := 1) rfl (by first | rfl | decide) (by decide) rfl (fun ls hl => ?_)
            refine lv_goto (tgt := 251) hx hb dX8_grid_293 (by decide) ?_
            exact ih ((nI K) + (-1)) K na ne av kdf dpf lnf clf baf btf pnf skf atf H locs ls (rfl) (by omega) (zz_In_pop hI) (by omega) (by omega) (by omega) hZ (lv_sub hl [0, 2, 3, 4, 5, 6] rfl)
  exact LP26 _ 0 1 (0 + 1) (0 + (ll 0)) (fun _ => 0) (upd (fun _ => 0) 0 x1) (upd (fun _ => 0) 0 (nI (D + 1))) (upd (fun _ => 0) 0 (nI (ll 0))) (upd (fun _ => 0) 0 (-1)) (upd (fun _ => 0) 0 (nI 0)) bt2_24 pn2_25 (upd (fun _ => 0) 0 (nI 0)) (upd (fun _ => 0) 0 0) H locs ls (by decide) (by omega) (zz_In_init hl0) (by omega) (by omega) (Nat.lt_succ_self _) hZ (lv_sub hl [0, 1, 2, 3, 4, 5] rfl)

