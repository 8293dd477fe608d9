abbrev b_Law_law : ByteArray := code
theorem d_Law_feed_0 : decode b_Law_feed 0 = .ok (.aload_n 0, 1) := by decide +kernel
theorem d_Law_feed_1 : decode b_Law_feed 1 = .ok (.iload_n 1, 1) := by decide +kernel
theorem d_Law_feed_2 : decode b_Law_feed 2 = .ok (.iload_n 2, 1) := by decide +kernel
theorem d_Law_feed_3 : decode b_Law_feed 3 = .ok (.iload_n 3, 1) := by decide +kernel
theorem d_Law_feed_4 : decode b_Law_feed 4 = .ok (.iload 4, 2) := by decide +kernel
theorem d_Law_feed_6 : decode b_Law_feed 6 = .ok (.iload 5, 2) := by decide +kernel
theorem d_Law_feed_8 : decode b_Law_feed 8 = .ok (.invokevirtual 7, 3) := by decide +kernel
theorem d_Law_feed_11 : decode b_Law_feed 11 = .ok (.goto 7, 3) := by decide +kernel
theorem d_Law_feed_14 : decode b_Law_feed 14 = .ok (.astore 6, 2) := by decide +kernel
theorem d_Law_feed_16 : decode b_Law_feed 16 = .ok (.iconst 1, 1) := by decide +kernel
theorem d_Law_feed_17 : decode b_Law_feed 17 = .ok (.ireturn, 1) := by decide +kernel
theorem d_Law_feed_18 : decode b_Law_feed 18 = .ok (.iconst 0, 1) := by decide +kernel
theorem d_Law_feed_19 : decode b_Law_feed 19 = .ok (.ireturn, 1) := by decide +kernel
theorem d_Law_end_0 : decode b_Law_end 0 = .ok (.aload_n 2, 1) := by decide +kernel
theorem d_Law_end_1 : decode b_Law_end 1 = .ok (.iconst 0, 1) := by decide +kernel
theorem d_Law_end_2 : decode b_Law_end 2 = .ok (.aload_n 0, 1) := by decide +kernel
theorem d_Law_end_3 : decode b_Law_end 3 = .ok (.iload_n 1, 1) := by decide +kernel
theorem d_Law_end_4 : decode b_Law_end 4 = .ok (.invokevirtual 15, 3) := by decide +kernel
theorem d_Law_end_7 : decode b_Law_end 7 = .ok (.i2l, 1) := by decide +kernel
theorem d_Law_end_8 : decode b_Law_end 8 = .ok (.lastore, 1) := by decide +kernel
theorem d_Law_end_9 : decode b_Law_end 9 = .ok (.goto 6, 3) := by decide +kernel
theorem d_Law_end_12 : decode b_Law_end 12 = .ok (.astore_n 3, 1) := by decide +kernel
theorem d_Law_end_13 : decode b_Law_end 13 = .ok (.iconst 1, 1) := by decide +kernel
theorem d_Law_end_14 : decode b_Law_end 14 = .ok (.ireturn, 1) := by decide +kernel
theorem d_Law_end_15 : decode b_Law_end 15 = .ok (.iconst 0, 1) := by decide +kernel
theorem d_Law_end_16 : decode b_Law_end 16 = .ok (.ireturn, 1) := by decide +kernel
theorem d_Law_law_0 : decode b_Law_law 0 = .ok (.new 8, 3) := by decide +kernel
theorem d_Law_law_3 : decode b_Law_law 3 = .ok (.dup, 1) := by decide +kernel
theorem d_Law_law_4 : decode b_Law_law 4 = .ok (.invokespecial 21, 3) := by decide +kernel
theorem d_Law_law_7 : decode b_Law_law 7 = .ok (.astore_n 1, 1) := by decide +kernel
theorem d_Law_law_8 : decode b_Law_law 8 = .ok (.new 22, 3) := by decide +kernel
theorem d_Law_law_11 : decode b_Law_law 11 = .ok (.dup, 1) := by decide +kernel
theorem d_Law_law_12 : decode b_Law_law 12 = .ok (.invokespecial 24, 3) := by decide +kernel
theorem d_Law_law_15 : decode b_Law_law 15 = .ok (.astore_n 2, 1) := by decide +kernel
theorem d_Law_law_16 : decode b_Law_law 16 = .ok (.iconst 1, 1) := by decide +kernel
theorem d_Law_law_17 : decode b_Law_law 17 = .ok (.newarray .long, 2) := by decide +kernel
theorem d_Law_law_19 : decode b_Law_law 19 = .ok (.astore_n 3, 1) := by decide +kernel
theorem d_Law_law_20 : decode b_Law_law 20 = .ok (.iconst 0, 1) := by decide +kernel
theorem d_Law_law_21 : decode b_Law_law 21 = .ok (.istore 4, 2) := by decide +kernel
theorem d_Law_law_23 : decode b_Law_law 23 = .ok (.iload 4, 2) := by decide +kernel
theorem d_Law_law_25 : decode b_Law_law 25 = .ok (.aload_n 0, 1) := by decide +kernel
theorem d_Law_law_26 : decode b_Law_law 26 = .ok (.arraylength, 1) := by decide +kernel
theorem d_Law_law_27 : decode b_Law_law 27 = .ok (.bipush 6, 2) := by decide +kernel
theorem d_Law_law_29 : decode b_Law_law 29 = .ok (.isub, 1) := by decide +kernel
theorem d_Law_law_30 : decode b_Law_law 30 = .ok (.if_icmp .gt 567, 3) := by decide +kernel
theorem d_Law_law_33 : decode b_Law_law 33 = .ok (.aload_n 0, 1) := by decide +kernel
theorem d_Law_law_34 : decode b_Law_law 34 = .ok (.iload 4, 2) := by decide +kernel
theorem d_Law_law_36 : decode b_Law_law 36 = .ok (.iaload, 1) := by decide +kernel
theorem d_Law_law_37 : decode b_Law_law 37 = .ok (.bipush 31, 2) := by decide +kernel
theorem d_Law_law_39 : decode b_Law_law 39 = .ok (.iand, 1) := by decide +kernel
theorem d_Law_law_40 : decode b_Law_law 40 = .ok (.tableswitch 551 0 16 #[84, 168, 224, 261, 274, 287, 300, 325, 350, 375, 400, 437, 474, 487, 500, 525, 538], 84) := by decide +kernel
theorem d_Law_law_124 : decode b_Law_law 124 = .ok (.aload_n 1, 1) := by decide +kernel
theorem d_Law_law_125 : decode b_Law_law 125 = .ok (.aload_n 0, 1) := by decide +kernel
theorem d_Law_law_126 : decode b_Law_law 126 = .ok (.iload 4, 2) := by decide +kernel
theorem d_Law_law_128 : decode b_Law_law 128 = .ok (.iconst 1, 1) := by decide +kernel
theorem d_Law_law_129 : decode b_Law_law 129 = .ok (.iadd, 1) := by decide +kernel
theorem d_Law_law_130 : decode b_Law_law 130 = .ok (.iaload, 1) := by decide +kernel
theorem d_Law_law_131 : decode b_Law_law 131 = .ok (.aload_n 0, 1) := by decide +kernel
theorem d_Law_law_132 : decode b_Law_law 132 = .ok (.iload 4, 2) := by decide +kernel
theorem d_Law_law_134 : decode b_Law_law 134 = .ok (.iconst 2, 1) := by decide +kernel
theorem d_Law_law_135 : decode b_Law_law 135 = .ok (.iadd, 1) := by decide +kernel
theorem d_Law_law_136 : decode b_Law_law 136 = .ok (.iaload, 1) := by decide +kernel
theorem d_Law_law_137 : decode b_Law_law 137 = .ok (.aload_n 0, 1) := by decide +kernel
theorem d_Law_law_138 : decode b_Law_law 138 = .ok (.iload 4, 2) := by decide +kernel
theorem d_Law_law_140 : decode b_Law_law 140 = .ok (.iconst 3, 1) := by decide +kernel
theorem d_Law_law_141 : decode b_Law_law 141 = .ok (.iadd, 1) := by decide +kernel
theorem d_Law_law_142 : decode b_Law_law 142 = .ok (.iaload, 1) := by decide +kernel
theorem d_Law_law_143 : decode b_Law_law 143 = .ok (.aload_n 0, 1) := by decide +kernel
theorem d_Law_law_144 : decode b_Law_law 144 = .ok (.iload 4, 2) := by decide +kernel
theorem d_Law_law_146 : decode b_Law_law 146 = .ok (.iconst 4, 1) := by decide +kernel
theorem d_Law_law_147 : decode b_Law_law 147 = .ok (.iadd, 1) := by decide +kernel
theorem d_Law_law_148 : decode b_Law_law 148 = .ok (.iaload, 1) := by decide +kernel
theorem d_Law_law_149 : decode b_Law_law 149 = .ok (.aload_n 0, 1) := by decide +kernel
theorem d_Law_law_150 : decode b_Law_law 150 = .ok (.iload 4, 2) := by decide +kernel
theorem d_Law_law_152 : decode b_Law_law 152 = .ok (.iconst 5, 1) := by decide +kernel
theorem d_Law_law_153 : decode b_Law_law 153 = .ok (.iadd, 1) := by decide +kernel
theorem d_Law_law_154 : decode b_Law_law 154 = .ok (.iaload, 1) := by decide +kernel
theorem d_Law_law_155 : decode b_Law_law 155 = .ok (.invokestatic 25, 3) := by decide +kernel
theorem d_Law_law_158 : decode b_Law_law 158 = .ok (.istore 5, 2) := by decide +kernel
theorem d_Law_law_160 : decode b_Law_law 160 = .ok (.aload_n 2, 1) := by decide +kernel
theorem d_Law_law_161 : decode b_Law_law 161 = .ok (.aload_n 0, 1) := by decide +kernel
theorem d_Law_law_162 : decode b_Law_law 162 = .ok (.iload 4, 2) := by decide +kernel
theorem d_Law_law_164 : decode b_Law_law 164 = .ok (.iconst 1, 1) := by decide +kernel
theorem d_Law_law_165 : decode b_Law_law 165 = .ok (.iadd, 1) := by decide +kernel
theorem d_Law_law_166 : decode b_Law_law 166 = .ok (.iaload, 1) := by decide +kernel
theorem d_Law_law_167 : decode b_Law_law 167 = .ok (.aload_n 0, 1) := by decide +kernel
theorem d_Law_law_168 : decode b_Law_law 168 = .ok (.iload 4, 2) := by decide +kernel
theorem d_Law_law_170 : decode b_Law_law 170 = .ok (.iconst 2, 1) := by decide +kernel
theorem d_Law_law_171 : decode b_Law_law 171 = .ok (.iadd, 1) := by decide +kernel
theorem d_Law_law_172 : decode b_Law_law 172 = .ok (.iaload, 1) := by decide +kernel
theorem d_Law_law_173 : decode b_Law_law 173 = .ok (.aload_n 0, 1) := by decide +kernel
theorem d_Law_law_174 : decode b_Law_law 174 = .ok (.iload 4, 2) := by decide +kernel
theorem d_Law_law_176 : decode b_Law_law 176 = .ok (.iconst 3, 1) := by decide +kernel
theorem d_Law_law_177 : decode b_Law_law 177 = .ok (.iadd, 1) := by decide +kernel
theorem d_Law_law_178 : decode b_Law_law 178 = .ok (.iaload, 1) := by decide +kernel
theorem d_Law_law_179 : decode b_Law_law 179 = .ok (.aload_n 0, 1) := by decide +kernel
theorem d_Law_law_180 : decode b_Law_law 180 = .ok (.iload 4, 2) := by decide +kernel
theorem d_Law_law_182 : decode b_Law_law 182 = .ok (.iconst 4, 1) := by decide +kernel
theorem d_Law_law_183 : decode b_Law_law 183 = .ok (.iadd, 1) := by decide +kernel
theorem d_Law_law_184 : decode b_Law_law 184 = .ok (.iaload, 1) := by decide +kernel
theorem d_Law_law_185 : decode b_Law_law 185 = .ok (.aload_n 0, 1) := by decide +kernel
theorem d_Law_law_186 : decode b_Law_law 186 = .ok (.iload 4, 2) := by decide +kernel
theorem d_Law_law_188 : decode b_Law_law 188 = .ok (.iconst 5, 1) := by decide +kernel
theorem d_Law_law_189 : decode b_Law_law 189 = .ok (.iadd, 1) := by decide +kernel
theorem d_Law_law_190 : decode b_Law_law 190 = .ok (.iaload, 1) := by decide +kernel
theorem d_Law_law_191 : decode b_Law_law 191 = .ok (.invokevirtual 30, 3) := by decide +kernel
theorem d_Law_law_194 : decode b_Law_law 194 = .ok (.aload_n 2, 1) := by decide +kernel
theorem d_Law_law_195 : decode b_Law_law 195 = .ok (.invokevirtual 31, 3) := by decide +kernel
theorem d_Law_law_198 : decode b_Law_law 198 = .ok (.iload 5, 2) := by decide +kernel
theorem d_Law_law_200 : decode b_Law_law 200 = .ok (.if_icmp .eq 5, 3) := by decide +kernel
theorem d_Law_law_203 : decode b_Law_law 203 = .ok (.iconst 0, 1) := by decide +kernel
theorem d_Law_law_204 : decode b_Law_law 204 = .ok (.ireturn, 1) := by decide +kernel
theorem d_Law_law_205 : decode b_Law_law 205 = .ok (.goto 386, 3) := by decide +kernel
theorem d_Law_law_208 : decode b_Law_law 208 = .ok (.aload_n 1, 1) := by decide +kernel
theorem d_Law_law_209 : decode b_Law_law 209 = .ok (.aload_n 0, 1) := by decide +kernel
theorem d_Law_law_210 : decode b_Law_law 210 = .ok (.iload 4, 2) := by decide +kernel
theorem d_Law_law_212 : decode b_Law_law 212 = .ok (.iconst 1, 1) := by decide +kernel
theorem d_Law_law_213 : decode b_Law_law 213 = .ok (.iadd, 1) := by decide +kernel
theorem d_Law_law_214 : decode b_Law_law 214 = .ok (.iaload, 1) := by decide +kernel
theorem d_Law_law_215 : decode b_Law_law 215 = .ok (.aload_n 3, 1) := by decide +kernel
theorem d_Law_law_216 : decode b_Law_law 216 = .ok (.invokestatic 35, 3) := by decide +kernel
theorem d_Law_law_219 : decode b_Law_law 219 = .ok (.istore 5, 2) := by decide +kernel
theorem d_Law_law_221 : decode b_Law_law 221 = .ok (.aload_n 2, 1) := by decide +kernel
theorem d_Law_law_222 : decode b_Law_law 222 = .ok (.aload_n 0, 1) := by decide +kernel
theorem d_Law_law_223 : decode b_Law_law 223 = .ok (.iload 4, 2) := by decide +kernel
theorem d_Law_law_225 : decode b_Law_law 225 = .ok (.iconst 1, 1) := by decide +kernel
theorem d_Law_law_226 : decode b_Law_law 226 = .ok (.iadd, 1) := by decide +kernel
theorem d_Law_law_227 : decode b_Law_law 227 = .ok (.iaload, 1) := by decide +kernel
theorem d_Law_law_228 : decode b_Law_law 228 = .ok (.invokevirtual 38, 3) := by decide +kernel
theorem d_Law_law_231 : decode b_Law_law 231 = .ok (.istore 6, 2) := by decide +kernel
theorem d_Law_law_233 : decode b_Law_law 233 = .ok (.aload_n 2, 1) := by decide +kernel
theorem d_Law_law_234 : decode b_Law_law 234 = .ok (.invokevirtual 31, 3) := by decide +kernel
theorem d_Law_law_237 : decode b_Law_law 237 = .ok (.iload 5, 2) := by decide +kernel
theorem d_Law_law_239 : decode b_Law_law 239 = .ok (.if_icmp .eq 5, 3) := by decide +kernel
theorem d_Law_law_242 : decode b_Law_law 242 = .ok (.iconst 0, 1) := by decide +kernel
theorem d_Law_law_243 : decode b_Law_law 243 = .ok (.ireturn, 1) := by decide +kernel
theorem d_Law_law_244 : decode b_Law_law 244 = .ok (.iload 5, 2) := by decide +kernel
theorem d_Law_law_246 : decode b_Law_law 246 = .ok (.ifCond .ne 15, 3) := by decide +kernel
theorem d_Law_law_249 : decode b_Law_law 249 = .ok (.aload_n 3, 1) := by decide +kernel
theorem d_Law_law_250 : decode b_Law_law 250 = .ok (.iconst 0, 1) := by decide +kernel
theorem d_Law_law_251 : decode b_Law_law 251 = .ok (.laload, 1) := by decide +kernel
theorem d_Law_law_252 : decode b_Law_law 252 = .ok (.iload 6, 2) := by decide +kernel
theorem d_Law_law_254 : decode b_Law_law 254 = .ok (.i2l, 1) := by decide +kernel
theorem d_Law_law_255 : decode b_Law_law 255 = .ok (.lcmp, 1) := by decide +kernel
theorem d_Law_law_256 : decode b_Law_law 256 = .ok (.ifCond .eq 5, 3) := by decide +kernel
theorem d_Law_law_259 : decode b_Law_law 259 = .ok (.iconst 0, 1) := by decide +kernel
theorem d_Law_law_260 : decode b_Law_law 260 = .ok (.ireturn, 1) := by decide +kernel
theorem d_Law_law_261 : decode b_Law_law 261 = .ok (.goto 330, 3) := by decide +kernel
theorem d_Law_law_264 : decode b_Law_law 264 = .ok (.aload_n 1, 1) := by decide +kernel
theorem d_Law_law_265 : decode b_Law_law 265 = .ok (.aload_n 0, 1) := by decide +kernel
theorem d_Law_law_266 : decode b_Law_law 266 = .ok (.iload 4, 2) := by decide +kernel
theorem d_Law_law_268 : decode b_Law_law 268 = .ok (.iconst 1, 1) := by decide +kernel
theorem d_Law_law_269 : decode b_Law_law 269 = .ok (.iadd, 1) := by decide +kernel
theorem d_Law_law_270 : decode b_Law_law 270 = .ok (.iaload, 1) := by decide +kernel
theorem d_Law_law_271 : decode b_Law_law 271 = .ok (.aload_n 0, 1) := by decide +kernel
theorem d_Law_law_272 : decode b_Law_law 272 = .ok (.iload 4, 2) := by decide +kernel
theorem d_Law_law_274 : decode b_Law_law 274 = .ok (.iconst 2, 1) := by decide +kernel
theorem d_Law_law_275 : decode b_Law_law 275 = .ok (.iadd, 1) := by decide +kernel
theorem d_Law_law_276 : decode b_Law_law 276 = .ok (.iaload, 1) := by decide +kernel
theorem d_Law_law_277 : decode b_Law_law 277 = .ok (.invokevirtual 39, 3) := by decide +kernel
theorem d_Law_law_280 : decode b_Law_law 280 = .ok (.aload_n 2, 1) := by decide +kernel
theorem d_Law_law_281 : decode b_Law_law 281 = .ok (.aload_n 0, 1) := by decide +kernel
theorem d_Law_law_282 : decode b_Law_law 282 = .ok (.iload 4, 2) := by decide +kernel
theorem d_Law_law_284 : decode b_Law_law 284 = .ok (.iconst 1, 1) := by decide +kernel
theorem d_Law_law_285 : decode b_Law_law 285 = .ok (.iadd, 1) := by decide +kernel
theorem d_Law_law_286 : decode b_Law_law 286 = .ok (.iaload, 1) := by decide +kernel
theorem d_Law_law_287 : decode b_Law_law 287 = .ok (.aload_n 0, 1) := by decide +kernel
theorem d_Law_law_288 : decode b_Law_law 288 = .ok (.iload 4, 2) := by decide +kernel
theorem d_Law_law_290 : decode b_Law_law 290 = .ok (.iconst 2, 1) := by decide +kernel
theorem d_Law_law_291 : decode b_Law_law 291 = .ok (.iadd, 1) := by decide +kernel
theorem d_Law_law_292 : decode b_Law_law 292 = .ok (.iaload, 1) := by decide +kernel
theorem d_Law_law_293 : decode b_Law_law 293 = .ok (.invokevirtual 43, 3) := by decide +kernel
theorem d_Law_law_296 : decode b_Law_law 296 = .ok (.if_icmp .eq 295, 3) := by decide +kernel
theorem d_Law_law_299 : decode b_Law_law 299 = .ok (.iconst 0, 1) := by decide +kernel
theorem d_Law_law_300 : decode b_Law_law 300 = .ok (.ireturn, 1) := by decide +kernel
theorem d_Law_law_301 : decode b_Law_law 301 = .ok (.aload_n 1, 1) := by decide +kernel
theorem d_Law_law_302 : decode b_Law_law 302 = .ok (.invokevirtual 44, 3) := by decide +kernel
theorem d_Law_law_305 : decode b_Law_law 305 = .ok (.aload_n 2, 1) := by decide +kernel
theorem d_Law_law_306 : decode b_Law_law 306 = .ok (.invokevirtual 47, 3) := by decide +kernel
theorem d_Law_law_309 : decode b_Law_law 309 = .ok (.if_icmp .eq 282, 3) := by decide +kernel
theorem d_Law_law_312 : decode b_Law_law 312 = .ok (.iconst 0, 1) := by decide +kernel
theorem d_Law_law_313 : decode b_Law_law 313 = .ok (.ireturn, 1) := by decide +kernel
theorem d_Law_law_314 : decode b_Law_law 314 = .ok (.aload_n 1, 1) := by decide +kernel
theorem d_Law_law_315 : decode b_Law_law 315 = .ok (.invokevirtual 48, 3) := by decide +kernel
theorem d_Law_law_318 : decode b_Law_law 318 = .ok (.aload_n 2, 1) := by decide +kernel
theorem d_Law_law_319 : decode b_Law_law 319 = .ok (.invokevirtual 51, 3) := by decide +kernel
theorem d_Law_law_322 : decode b_Law_law 322 = .ok (.if_icmp .eq 269, 3) := by decide +kernel
theorem d_Law_law_325 : decode b_Law_law 325 = .ok (.iconst 0, 1) := by decide +kernel
theorem d_Law_law_326 : decode b_Law_law 326 = .ok (.ireturn, 1) := by decide +kernel
theorem d_Law_law_327 : decode b_Law_law 327 = .ok (.aload_n 1, 1) := by decide +kernel
theorem d_Law_law_328 : decode b_Law_law 328 = .ok (.invokevirtual 52, 3) := by decide +kernel
theorem d_Law_law_331 : decode b_Law_law 331 = .ok (.aload_n 2, 1) := by decide +kernel
theorem d_Law_law_332 : decode b_Law_law 332 = .ok (.invokevirtual 55, 3) := by decide +kernel
theorem d_Law_law_335 : decode b_Law_law 335 = .ok (.if_icmp .eq 256, 3) := by decide +kernel
theorem d_Law_law_338 : decode b_Law_law 338 = .ok (.iconst 0, 1) := by decide +kernel
theorem d_Law_law_339 : decode b_Law_law 339 = .ok (.ireturn, 1) := by decide +kernel
theorem d_Law_law_340 : decode b_Law_law 340 = .ok (.aload_n 1, 1) := by decide +kernel
theorem d_Law_law_341 : decode b_Law_law 341 = .ok (.aload_n 0, 1) := by decide +kernel
theorem d_Law_law_342 : decode b_Law_law 342 = .ok (.iload 4, 2) := by decide +kernel
theorem d_Law_law_344 : decode b_Law_law 344 = .ok (.iconst 1, 1) := by decide +kernel
theorem d_Law_law_345 : decode b_Law_law 345 = .ok (.iadd, 1) := by decide +kernel
theorem d_Law_law_346 : decode b_Law_law 346 = .ok (.iaload, 1) := by decide +kernel
theorem d_Law_law_347 : decode b_Law_law 347 = .ok (.invokevirtual 56, 3) := by decide +kernel
theorem d_Law_law_350 : decode b_Law_law 350 = .ok (.aload_n 2, 1) := by decide +kernel
theorem d_Law_law_351 : decode b_Law_law 351 = .ok (.aload_n 0, 1) := by decide +kernel
theorem d_Law_law_352 : decode b_Law_law 352 = .ok (.iload 4, 2) := by decide +kernel
theorem d_Law_law_354 : decode b_Law_law 354 = .ok (.iconst 1, 1) := by decide +kernel
theorem d_Law_law_355 : decode b_Law_law 355 = .ok (.iadd, 1) := by decide +kernel
theorem d_Law_law_356 : decode b_Law_law 356 = .ok (.iaload, 1) := by decide +kernel
theorem d_Law_law_357 : decode b_Law_law 357 = .ok (.invokevirtual 59, 3) := by decide +kernel
theorem d_Law_law_360 : decode b_Law_law 360 = .ok (.if_icmp .eq 231, 3) := by decide +kernel
theorem d_Law_law_363 : decode b_Law_law 363 = .ok (.iconst 0, 1) := by decide +kernel
theorem d_Law_law_364 : decode b_Law_law 364 = .ok (.ireturn, 1) := by decide +kernel
theorem d_Law_law_365 : decode b_Law_law 365 = .ok (.aload_n 1, 1) := by decide +kernel
theorem d_Law_law_366 : decode b_Law_law 366 = .ok (.aload_n 0, 1) := by decide +kernel
theorem d_Law_law_367 : decode b_Law_law 367 = .ok (.iload 4, 2) := by decide +kernel
theorem d_Law_law_369 : decode b_Law_law 369 = .ok (.iconst 1, 1) := by decide +kernel
theorem d_Law_law_370 : decode b_Law_law 370 = .ok (.iadd, 1) := by decide +kernel
theorem d_Law_law_371 : decode b_Law_law 371 = .ok (.iaload, 1) := by decide +kernel
theorem d_Law_law_372 : decode b_Law_law 372 = .ok (.invokevirtual 60, 3) := by decide +kernel
theorem d_Law_law_375 : decode b_Law_law 375 = .ok (.aload_n 2, 1) := by decide +kernel
theorem d_Law_law_376 : decode b_Law_law 376 = .ok (.aload_n 0, 1) := by decide +kernel
theorem d_Law_law_377 : decode b_Law_law 377 = .ok (.iload 4, 2) := by decide +kernel
theorem d_Law_law_379 : decode b_Law_law 379 = .ok (.iconst 1, 1) := by decide +kernel
theorem d_Law_law_380 : decode b_Law_law 380 = .ok (.iadd, 1) := by decide +kernel
theorem d_Law_law_381 : decode b_Law_law 381 = .ok (.iaload, 1) := by decide +kernel
theorem d_Law_law_382 : decode b_Law_law 382 = .ok (.invokevirtual 63, 3) := by decide +kernel
theorem d_Law_law_385 : decode b_Law_law 385 = .ok (.if_icmp .eq 206, 3) := by decide +kernel
theorem d_Law_law_388 : decode b_Law_law 388 = .ok (.iconst 0, 1) := by decide +kernel
theorem d_Law_law_389 : decode b_Law_law 389 = .ok (.ireturn, 1) := by decide +kernel
theorem d_Law_law_390 : decode b_Law_law 390 = .ok (.aload_n 1, 1) := by decide +kernel
theorem d_Law_law_391 : decode b_Law_law 391 = .ok (.aload_n 0, 1) := by decide +kernel
theorem d_Law_law_392 : decode b_Law_law 392 = .ok (.iload 4, 2) := by decide +kernel
theorem d_Law_law_394 : decode b_Law_law 394 = .ok (.iconst 1, 1) := by decide +kernel
theorem d_Law_law_395 : decode b_Law_law 395 = .ok (.iadd, 1) := by decide +kernel
theorem d_Law_law_396 : decode b_Law_law 396 = .ok (.iaload, 1) := by decide +kernel
theorem d_Law_law_397 : decode b_Law_law 397 = .ok (.invokevirtual 64, 3) := by decide +kernel
theorem d_Law_law_400 : decode b_Law_law 400 = .ok (.aload_n 2, 1) := by decide +kernel
theorem d_Law_law_401 : decode b_Law_law 401 = .ok (.aload_n 0, 1) := by decide +kernel
theorem d_Law_law_402 : decode b_Law_law 402 = .ok (.iload 4, 2) := by decide +kernel
theorem d_Law_law_404 : decode b_Law_law 404 = .ok (.iconst 1, 1) := by decide +kernel
theorem d_Law_law_405 : decode b_Law_law 405 = .ok (.iadd, 1) := by decide +kernel
theorem d_Law_law_406 : decode b_Law_law 406 = .ok (.iaload, 1) := by decide +kernel
theorem d_Law_law_407 : decode b_Law_law 407 = .ok (.invokevirtual 67, 3) := by decide +kernel
theorem d_Law_law_410 : decode b_Law_law 410 = .ok (.if_icmp .eq 181, 3) := by decide +kernel
theorem d_Law_law_413 : decode b_Law_law 413 = .ok (.iconst 0, 1) := by decide +kernel
theorem d_Law_law_414 : decode b_Law_law 414 = .ok (.ireturn, 1) := by decide +kernel
theorem d_Law_law_415 : decode b_Law_law 415 = .ok (.aload_n 1, 1) := by decide +kernel
theorem d_Law_law_416 : decode b_Law_law 416 = .ok (.aload_n 0, 1) := by decide +kernel
theorem d_Law_law_417 : decode b_Law_law 417 = .ok (.iload 4, 2) := by decide +kernel
theorem d_Law_law_419 : decode b_Law_law 419 = .ok (.iconst 1, 1) := by decide +kernel
theorem d_Law_law_420 : decode b_Law_law 420 = .ok (.iadd, 1) := by decide +kernel
theorem d_Law_law_421 : decode b_Law_law 421 = .ok (.iaload, 1) := by decide +kernel
theorem d_Law_law_422 : decode b_Law_law 422 = .ok (.invokevirtual 68, 3) := by decide +kernel
theorem d_Law_law_425 : decode b_Law_law 425 = .ok (.aload_n 2, 1) := by decide +kernel
theorem d_Law_law_426 : decode b_Law_law 426 = .ok (.aload_n 0, 1) := by decide +kernel
theorem d_Law_law_427 : decode b_Law_law 427 = .ok (.iload 4, 2) := by decide +kernel
theorem d_Law_law_429 : decode b_Law_law 429 = .ok (.iconst 1, 1) := by decide +kernel
theorem d_Law_law_430 : decode b_Law_law 430 = .ok (.iadd, 1) := by decide +kernel
theorem d_Law_law_431 : decode b_Law_law 431 = .ok (.iaload, 1) := by decide +kernel
theorem d_Law_law_432 : decode b_Law_law 432 = .ok (.invokevirtual 71, 3) := by decide +kernel
theorem d_Law_law_435 : decode b_Law_law 435 = .ok (.if_icmp .eq 156, 3) := by decide +kernel
theorem d_Law_law_438 : decode b_Law_law 438 = .ok (.iconst 0, 1) := by decide +kernel
theorem d_Law_law_439 : decode b_Law_law 439 = .ok (.ireturn, 1) := by decide +kernel
theorem d_Law_law_440 : decode b_Law_law 440 = .ok (.aload_n 1, 1) := by decide +kernel
theorem d_Law_law_441 : decode b_Law_law 441 = .ok (.aload_n 0, 1) := by decide +kernel
theorem d_Law_law_442 : decode b_Law_law 442 = .ok (.iload 4, 2) := by decide +kernel
theorem d_Law_law_444 : decode b_Law_law 444 = .ok (.iconst 1, 1) := by decide +kernel
theorem d_Law_law_445 : decode b_Law_law 445 = .ok (.iadd, 1) := by decide +kernel
theorem d_Law_law_446 : decode b_Law_law 446 = .ok (.iaload, 1) := by decide +kernel
theorem d_Law_law_447 : decode b_Law_law 447 = .ok (.aload_n 0, 1) := by decide +kernel
theorem d_Law_law_448 : decode b_Law_law 448 = .ok (.iload 4, 2) := by decide +kernel
theorem d_Law_law_450 : decode b_Law_law 450 = .ok (.iconst 2, 1) := by decide +kernel
theorem d_Law_law_451 : decode b_Law_law 451 = .ok (.iadd, 1) := by decide +kernel
theorem d_Law_law_452 : decode b_Law_law 452 = .ok (.iaload, 1) := by decide +kernel
theorem d_Law_law_453 : decode b_Law_law 453 = .ok (.invokevirtual 72, 3) := by decide +kernel
theorem d_Law_law_456 : decode b_Law_law 456 = .ok (.aload_n 2, 1) := by decide +kernel
theorem d_Law_law_457 : decode b_Law_law 457 = .ok (.aload_n 0, 1) := by decide +kernel
theorem d_Law_law_458 : decode b_Law_law 458 = .ok (.iload 4, 2) := by decide +kernel
theorem d_Law_law_460 : decode b_Law_law 460 = .ok (.iconst 1, 1) := by decide +kernel
theorem d_Law_law_461 : decode b_Law_law 461 = .ok (.iadd, 1) := by decide +kernel
theorem d_Law_law_462 : decode b_Law_law 462 = .ok (.iaload, 1) := by decide +kernel
theorem d_Law_law_463 : decode b_Law_law 463 = .ok (.aload_n 0, 1) := by decide +kernel
theorem d_Law_law_464 : decode b_Law_law 464 = .ok (.iload 4, 2) := by decide +kernel
theorem d_Law_law_466 : decode b_Law_law 466 = .ok (.iconst 2, 1) := by decide +kernel
theorem d_Law_law_467 : decode b_Law_law 467 = .ok (.iadd, 1) := by decide +kernel
theorem d_Law_law_468 : decode b_Law_law 468 = .ok (.iaload, 1) := by decide +kernel
theorem d_Law_law_469 : decode b_Law_law 469 = .ok (.invokevirtual 75, 3) := by decide +kernel
theorem d_Law_law_472 : decode b_Law_law 472 = .ok (.if_icmp .eq 119, 3) := by decide +kernel
theorem d_Law_law_475 : decode b_Law_law 475 = .ok (.iconst 0, 1) := by decide +kernel
theorem d_Law_law_476 : decode b_Law_law 476 = .ok (.ireturn, 1) := by decide +kernel
theorem d_Law_law_477 : decode b_Law_law 477 = .ok (.aload_n 1, 1) := by decide +kernel
theorem d_Law_law_478 : decode b_Law_law 478 = .ok (.aload_n 0, 1) := by decide +kernel
theorem d_Law_law_479 : decode b_Law_law 479 = .ok (.iload 4, 2) := by decide +kernel
theorem d_Law_law_481 : decode b_Law_law 481 = .ok (.iconst 1, 1) := by decide +kernel
theorem d_Law_law_482 : decode b_Law_law 482 = .ok (.iadd, 1) := by decide +kernel
theorem d_Law_law_483 : decode b_Law_law 483 = .ok (.iaload, 1) := by decide +kernel
theorem d_Law_law_484 : decode b_Law_law 484 = .ok (.aload_n 0, 1) := by decide +kernel
theorem d_Law_law_485 : decode b_Law_law 485 = .ok (.iload 4, 2) := by decide +kernel
theorem d_Law_law_487 : decode b_Law_law 487 = .ok (.iconst 2, 1) := by decide +kernel
theorem d_Law_law_488 : decode b_Law_law 488 = .ok (.iadd, 1) := by decide +kernel
theorem d_Law_law_489 : decode b_Law_law 489 = .ok (.iaload, 1) := by decide +kernel
theorem d_Law_law_490 : decode b_Law_law 490 = .ok (.invokevirtual 76, 3) := by decide +kernel
theorem d_Law_law_493 : decode b_Law_law 493 = .ok (.aload_n 2, 1) := by decide +kernel
theorem d_Law_law_494 : decode b_Law_law 494 = .ok (.aload_n 0, 1) := by decide +kernel
theorem d_Law_law_495 : decode b_Law_law 495 = .ok (.iload 4, 2) := by decide +kernel
theorem d_Law_law_497 : decode b_Law_law 497 = .ok (.iconst 1, 1) := by decide +kernel
theorem d_Law_law_498 : decode b_Law_law 498 = .ok (.iadd, 1) := by decide +kernel
theorem d_Law_law_499 : decode b_Law_law 499 = .ok (.iaload, 1) := by decide +kernel
theorem d_Law_law_500 : decode b_Law_law 500 = .ok (.aload_n 0, 1) := by decide +kernel
theorem d_Law_law_501 : decode b_Law_law 501 = .ok (.iload 4, 2) := by decide +kernel
theorem d_Law_law_503 : decode b_Law_law 503 = .ok (.iconst 2, 1) := by decide +kernel
theorem d_Law_law_504 : decode b_Law_law 504 = .ok (.iadd, 1) := by decide +kernel
theorem d_Law_law_505 : decode b_Law_law 505 = .ok (.iaload, 1) := by decide +kernel
theorem d_Law_law_506 : decode b_Law_law 506 = .ok (.invokevirtual 79, 3) := by decide +kernel
theorem d_Law_law_509 : decode b_Law_law 509 = .ok (.if_icmp .eq 82, 3) := by decide +kernel
theorem d_Law_law_512 : decode b_Law_law 512 = .ok (.iconst 0, 1) := by decide +kernel
theorem d_Law_law_513 : decode b_Law_law 513 = .ok (.ireturn, 1) := by decide +kernel
theorem d_Law_law_514 : decode b_Law_law 514 = .ok (.aload_n 1, 1) := by decide +kernel
theorem d_Law_law_515 : decode b_Law_law 515 = .ok (.invokevirtual 80, 3) := by decide +kernel
theorem d_Law_law_518 : decode b_Law_law 518 = .ok (.aload_n 2, 1) := by decide +kernel
theorem d_Law_law_519 : decode b_Law_law 519 = .ok (.invokevirtual 83, 3) := by decide +kernel
theorem d_Law_law_522 : decode b_Law_law 522 = .ok (.if_icmp .eq 69, 3) := by decide +kernel
theorem d_Law_law_525 : decode b_Law_law 525 = .ok (.iconst 0, 1) := by decide +kernel
theorem d_Law_law_526 : decode b_Law_law 526 = .ok (.ireturn, 1) := by decide +kernel
theorem d_Law_law_527 : decode b_Law_law 527 = .ok (.aload_n 1, 1) := by decide +kernel
theorem d_Law_law_528 : decode b_Law_law 528 = .ok (.invokevirtual 84, 3) := by decide +kernel
theorem d_Law_law_531 : decode b_Law_law 531 = .ok (.aload_n 2, 1) := by decide +kernel
theorem d_Law_law_532 : decode b_Law_law 532 = .ok (.invokevirtual 87, 3) := by decide +kernel
theorem d_Law_law_535 : decode b_Law_law 535 = .ok (.if_icmp .eq 56, 3) := by decide +kernel
theorem d_Law_law_538 : decode b_Law_law 538 = .ok (.iconst 0, 1) := by decide +kernel
theorem d_Law_law_539 : decode b_Law_law 539 = .ok (.ireturn, 1) := by decide +kernel
theorem d_Law_law_540 : decode b_Law_law 540 = .ok (.aload_n 1, 1) := by decide +kernel
theorem d_Law_law_541 : decode b_Law_law 541 = .ok (.aload_n 0, 1) := by decide +kernel
theorem d_Law_law_542 : decode b_Law_law 542 = .ok (.iload 4, 2) := by decide +kernel
theorem d_Law_law_544 : decode b_Law_law 544 = .ok (.iconst 1, 1) := by decide +kernel
theorem d_Law_law_545 : decode b_Law_law 545 = .ok (.iadd, 1) := by decide +kernel
theorem d_Law_law_546 : decode b_Law_law 546 = .ok (.iaload, 1) := by decide +kernel
theorem d_Law_law_547 : decode b_Law_law 547 = .ok (.invokevirtual 88, 3) := by decide +kernel
theorem d_Law_law_550 : decode b_Law_law 550 = .ok (.aload_n 2, 1) := by decide +kernel
theorem d_Law_law_551 : decode b_Law_law 551 = .ok (.aload_n 0, 1) := by decide +kernel
theorem d_Law_law_552 : decode b_Law_law 552 = .ok (.iload 4, 2) := by decide +kernel
theorem d_Law_law_554 : decode b_Law_law 554 = .ok (.iconst 1, 1) := by decide +kernel
theorem d_Law_law_555 : decode b_Law_law 555 = .ok (.iadd, 1) := by decide +kernel
theorem d_Law_law_556 : decode b_Law_law 556 = .ok (.iaload, 1) := by decide +kernel
theorem d_Law_law_557 : decode b_Law_law 557 = .ok (.invokevirtual 91, 3) := by decide +kernel
theorem d_Law_law_560 : decode b_Law_law 560 = .ok (.if_icmp .eq 31, 3) := by decide +kernel
theorem d_Law_law_563 : decode b_Law_law 563 = .ok (.iconst 0, 1) := by decide +kernel
theorem d_Law_law_564 : decode b_Law_law 564 = .ok (.ireturn, 1) := by decide +kernel
theorem d_Law_law_565 : decode b_Law_law 565 = .ok (.aload_n 1, 1) := by decide +kernel
theorem d_Law_law_566 : decode b_Law_law 566 = .ok (.invokevirtual 92, 3) := by decide +kernel
theorem d_Law_law_569 : decode b_Law_law 569 = .ok (.aload_n 2, 1) := by decide +kernel
theorem d_Law_law_570 : decode b_Law_law 570 = .ok (.invokevirtual 96, 3) := by decide +kernel
theorem d_Law_law_573 : decode b_Law_law 573 = .ok (.if_icmp .eq 18, 3) := by decide +kernel
theorem d_Law_law_576 : decode b_Law_law 576 = .ok (.iconst 0, 1) := by decide +kernel
theorem d_Law_law_577 : decode b_Law_law 577 = .ok (.ireturn, 1) := by decide +kernel
theorem d_Law_law_578 : decode b_Law_law 578 = .ok (.aload_n 1, 1) := by decide +kernel
theorem d_Law_law_579 : decode b_Law_law 579 = .ok (.invokevirtual 97, 3) := by decide +kernel
theorem d_Law_law_582 : decode b_Law_law 582 = .ok (.aload_n 2, 1) := by decide +kernel
theorem d_Law_law_583 : decode b_Law_law 583 = .ok (.invokevirtual 100, 3) := by decide +kernel
theorem d_Law_law_586 : decode b_Law_law 586 = .ok (.if_icmp .eq 5, 3) := by decide +kernel
theorem d_Law_law_589 : decode b_Law_law 589 = .ok (.iconst 0, 1) := by decide +kernel
theorem d_Law_law_590 : decode b_Law_law 590 = .ok (.ireturn, 1) := by decide +kernel
theorem d_Law_law_591 : decode b_Law_law 591 = .ok (.iinc 4 6, 3) := by decide +kernel
theorem d_Law_law_594 : decode b_Law_law 594 = .ok (.goto (-571), 3) := by decide +kernel
theorem d_Law_law_597 : decode b_Law_law 597 = .ok (.iconst 1, 1) := by decide +kernel
theorem d_Law_law_598 : decode b_Law_law 598 = .ok (.ireturn, 1) := by decide +kernel
/-! ===== the law's 'end': the throw is caught ===== -/
theorem same_cell {c c' : Cell} (h1 : c' = { cls := c.cls, slots := c'.slots, monitor := c.monitor, hash := c.hash, vm := c.vm }) (h2 : ∀ i : Nat, c'.slots[i]? = c.slots[i]?) : c' = c := by
  have e : c'.slots = c.slots := Array.ext_getElem? h2
  rw [h1, e]
theorem le_s : Cond.static y_Law_end ∈ av_tb := List.mem_filter.mpr ⟨List.mem_append_right _ (List.mem_of_getElem? (i := 595) (by decide +kernel)), by decide +kernel⟩
theorem le_c : Cond.codeWith y_Law_end b_Law_end 4 (some .int) [(0, 9, 12, 19)] ∈ av_tb := List.mem_filter.mpr ⟨List.mem_append_right _ (List.mem_of_getElem? (i := 596) (by decide +kernel)), by decide +kernel⟩
theorem le_l : Cond.methodLink "ImageReaderLaw" 35 y_Law_end ∈ av_tb := List.mem_filter.mpr ⟨List.mem_append_right _ (List.mem_of_getElem? (i := 594) (by decide +kernel)), by decide +kernel⟩
theorem le_k : Cond.classLink "ImageReaderLaw" 19 "java/lang/IllegalArgumentException" ∈ av_tb := List.mem_filter.mpr ⟨List.mem_append_right _ (List.mem_of_getElem? (i := 597) (by decide +kernel)), by decide +kernel⟩
theorem lf_s : Cond.static y_Law_feed ∈ av_tb := List.mem_filter.mpr ⟨List.mem_append_right _ (List.mem_of_getElem? (i := 520) (by decide +kernel)), by decide +kernel⟩
theorem lf_c : Cond.codeWith y_Law_feed b_Law_feed 7 (some .int) [(0, 11, 14, 13)] ∈ av_tb := List.mem_filter.mpr ⟨List.mem_append_right _ (List.mem_of_getElem? (i := 521) (by decide +kernel)), by decide +kernel⟩
theorem lf_l : Cond.methodLink "ImageReaderLaw" 25 y_Law_feed ∈ av_tb := List.mem_filter.mpr ⟨List.mem_append_right _ (List.mem_of_getElem? (i := 519) (by decide +kernel)), by decide +kernel⟩
theorem lw_i : Cond.initialized "ImageReaderLaw" ∈ av_tb := List.mem_filter.mpr ⟨List.mem_append_right _ (List.mem_of_getElem? (i := 0) (by decide +kernel)), by decide +kernel⟩
theorem le_n : av_nm y_Law_end 3 := ⟨by decide +kernel, by decide +kernel, by decide +kernel⟩
theorem lf_n : av_nm y_Law_feed 6 := ⟨by decide +kernel, by decide +kernel, by decide +kernel⟩
set_option maxHeartbeats 4000000 in
theorem c_Law_endT {tb : Nat → Nat} {h : AH} {r ou : Nat} {fs : List Value} (hr0 : h r = some (.inr (0, fs))) (k : Int32) (hM : ATM tb y_R_end b_R_end 3 (some .int) 6 110 [.ref r, .int k] h) : AMW tb y_Law_end b_Law_end 4 (some .int) [(0, 9, 12, 19)] 7 160 [.ref r, .int k, .ref ou] h 1 6 (fun v h' => v = some (.int (nI 1)) ∧ h' = h) := by
  intro l hl0 D dA sz
  refine va_MetW (hh := [(0, 9, 12, 19)]) (cc := b_Law_end) (maxL := 4) (ret := some .int) (by decide) rfl ?_
  intro p e s m args below meth c s₁ B hml hv
  obtain ⟨rfl, hsz, ⟨ws, hr, hP, hD⟩, hK⟩ := hv
  subst hsz
  have hl := lv_entry ([.ref r, .int k, .ref ou]) (n := 4) (Nat.le_of_ble_eq_true rfl)
  rw [lg_entry_eq]
  generalize (lg_sl ([Value.ref r, .int k, .ref ou]) ++ List.replicate (4 - (lg_sl ([Value.ref r, .int k, .ref ou])).length) Slot.unset).toArray = ls at hl ⊢
  have hl : lv_has ls 4 [(0, .ref r), (1, .int k), (2, .ref ou)] := hl
  have hts0 := atoms_spec (ws := av_wsW y_Law_end b_Law_end 4 (some .int) [(0, 9, 12, 19)]) B.pre
  have hts : ∀ w ∈ av_tb, w.before [Value.ref r, .int k, .ref ou].toArray s = true := fun w hw => hts0 w (List.mem_cons_of_mem _ hw)
  have hown : s.vm.findClass "ImageReaderLaw" = some m.cls := findClass_of_methodNamed B.named
  obtain ⟨m9, meth9, c9, hn9, hm9, hc9, -, -, htab, -, -, -⟩ := Cond.codeWith_spec (hts0 _ List.mem_cons_self)
  cases hn9.symm.trans B.named
  cases hm9.symm.trans B.method
  refine lv_aload_n B.exec B.bytes d_Law_end_0 rfl (lv_at hl 2 rfl) ?_
  refine lv_iconst (v := 0) B.exec B.bytes d_Law_end_1 (by decide) ?_
  refine lv_aload_n B.exec B.bytes d_Law_end_2 rfl (lv_at hl 0 rfl) ?_
  refine lv_iload_n B.exec B.bytes d_Law_end_3 rfl (lv_at hl 1 rfl) ?_
  intro T hT X
  have hcc : c9 = c := Option.some.inj (hc9.symm.trans X.code)
  subst hcc
  obtain ⟨x9, ht9, hx9⟩ : ∃ x9 : ExceptionTableEntry, c9.exceptionTable.toList = [x9] ∧ (x9.startPc, x9.endPc, x9.handlerPc, x9.catchType) = (0, 9, 12, 19) := by
    cases hz : c9.exceptionTable.toList with
    | nil => rw [hz] at htab; cases htab
    | cons x9 rest9 =>
      cases rest9 with
      | nil => rw [hz] at htab; exact ⟨x9, rfl, List.head_eq_of_cons_eq htab⟩
      | cons y9 r9 => rw [hz] at htab; exact absurd (congrArg List.length htab) (by simp)
  obtain ⟨⟨g1, g2, g3, g4⟩, gn, g5⟩ := cv_Law_15
  have g5 : Cond.methodLink "ImageReaderLaw" 15 y_R_end ∈ av_tb := tw_598
  obtain ⟨j, hj⟩ := hr.1 r _ hr0
  obtain ⟨cellB, hcB, hoB, hclB⟩ := va_recv hK.1 hP (show classes[0]? = some ("ImageReader", F_R, 8) from rfl) hj
  have hdg : decode c9.code 4 = .ok (.invokevirtual 15, 3) := by rw [B.bytes]; exact d_Law_end_4
  obtain ⟨mk, methM, hnamed, hmethM, hstM, habM⟩ := Cond.instanceMethod_spec (hts _ g1)
  obtain ⟨methM', cM, hmethM', hcM, -, hlY, -, -, -, hsigM⟩ := Cond.code_spec hnamed (hts _ g4)
  cases hmethM.symm.trans hmethM'
  obtain ⟨c2, r2, m2, q1, q2, q3, q4, kP, hkP, hkPi⟩ := Cond.selects_spec (hts _ g2)
  cases hclB.symm.trans q1
  cases (State.methodFound?_of_named hnamed ⟨gn.1, gn.2.1⟩).symm.trans q2
  cases hnamed.symm.trans q3
  have hselP : selectMethod e.platform s.vm cellB.cls mk = .method mk := by rw [Launch.admits_selectMethod X.admits]; exact q4
  have hlen : ([Value.int k] : List Value).length = methM.sig.parameters.length := by
    have h2 := gn.2.2
    rw [hsigM] at h2
    exact (Option.some.inj h2).symm
  obtain ⟨vm₁, X₁, hstep₁⟩ := X.invokevirtual B.exec hown (hts _ g5) hnamed hmethM hstM hkP hkPi ⟨gn.1, gn.2.1⟩ (a := r) (cell := cellB) (by rw [hT]; exact hcB) (fun z hz => by rw [hz] at hoB; cases hoB) hselP hmethM habM hkP hkPi (g := F0 m 4 ls [.int k, .ref r, .int 0, .ref ou]) rfl (argsL := [.int k]) (rest := [.int 0, .ref ou]) hlen rfl hdg
  obtain ⟨g, hg⟩ : ∃ g : JFrame, g = F0 m 4 ls [.int 0, .ref ou] := ⟨_, rfl⟩
  have hnU := X₁.named hnamed
  have hh : At (T.setVm vm₁) g.method c9 below := by rw [hg]; exact X₁.here
  obtain ⟨kY, hkY, -⟩ := className_of_methodNamed hnU
  have hwY : ∀ w ∈ av_ws y_R_end b_R_end 3 (some .int), w.before [Value.ref r, .int k].toArray (T.setVm vm₁) = true := by
    intro w hw
    have hin : w ∈ av_tb := av_ws_in g4 w hw
    exact word_at X₁.warmed (av_tb_ok w hin) (hts w hin)
  have hiY : (Cond.initialized y_R_end.cls).before [Value.ref r, .int k].toArray (T.setVm vm₁) = true := word_at X₁.warmed (av_tb_ok _ g3) (hts _ g3)
  have hinitY : kY.init = .initialized := Cond.initialized_spec (findClass_of_methodNamed hnU) hkY hiY
  obtain ⟨methY, cY, hmY, hcY, -, hlY2, -, -, -, -⟩ := Cond.code_spec hnU (hwY _ List.mem_cons_self)
  have hsize : g.locals.size = c9.maxLocals := by rw [hg, hml]; exact hl.1
  have happ : (headSpec (av_ws y_R_end b_R_end 3 (some .int)) { frames := 6, cells := 1, slots := 6, locals := 110 }).appliesLoose y_R_end e.platform ((T.setVm vm₁).calling g mk [Value.ref r, .int k].toArray) = true :=
    Spec.appliesLoose_calling (g := g) hh (by rw [hg]; exact hdg) hnU hkY hinitY
      (X₁.room_calling (g := g) (R' := (headSpec (av_ws y_R_end b_R_end 3 (some .int)) { frames := 6, cells := 1, slots := 6, locals := 110 }).room) hsize hmY hcY (show 6 + 1 ≤ 7 by decide) (by rw [hlY2, hg]; show 2 * 0 + (1 + (1 + 0)) + (3 + 11) + 110 ≤ 160; decide) (Nat.le_refl _) (Nat.le_refl _)) (atoms_intro hwY)
  have hPc : av_Pre tb D dA [.ref r, .int k] h T.heap.size [Value.ref r, .int k].toArray ((T.setVm vm₁).calling g mk [Value.ref r, .int k].toArray) := by
    refine av_blind _ _ _ _ ?_
    have := av_pre (tb := tb) (av := [.ref r, .int k]) hK hr hP hD (va_S.rf (A := av_AA h s.heap.size)) (fun q hq => Or.inr hq) (T.setVm vm₁) hT X₁.warmed
    rw [hT]
    exact this
  obtain ⟨mid, hmid⟩ := hh.above
  have hfr : ((T.setVm vm₁).setTop g).frames = (.java g :: mid) ++ below := by rw [State.frames_setTop' g hh.top, hmid]; rfl
  obtain ⟨o, s₂, hsteps, -, hend, hq⟩ := Steps.callFree (hM l hl0 D dA T.heap.size) p X.admits X.cas X.clock (acts := []) hfr happ hPc trivial
  have hq' : avT [Value.ref r, .int k].toArray ((T.setVm vm₁).calling g mk [Value.ref r, .int k].toArray) o s₂ := hq
  obtain ⟨q, ce, rfl, hce, hcv, hcl, hW₂, hsm⟩ := hq'
  rw [State.frames_setTop' g hh.top] at hend
  obtain ⟨g₀, hg0⟩ := Option.isSome_iff_exists.mp hh.top
  obtain ⟨r0, hr1⟩ := State.topJava?_eq_some.mp hg0
  obtain ⟨e2, z2, z3, z4, z5, z6⟩ := id hsm
  obtain ⟨U, hU⟩ : ∃ U : State, U = T.setVm vm₁ := ⟨_, rfl⟩
  rw [← hU] at hsteps hend hcl hW₂ hsm e2 z2 z3 z4 z5 z6 hr1 hh
  have e3 : s₂ = ({ (U.calling g mk [Value.ref r, .int k].toArray).setFrames s₂.frames with heap := s₂.heap, slotsUsed := s₂.slotsUsed } : State).setVm s₂.vm := by
    have : s₂ = ({ s₂ with vm := (U.calling g mk [Value.ref r, .int k].toArray).vm } : State).setVm s₂.vm := rfl
    rw [e2] at this
    exact this
  have hf₂ : s₂.frames = .throwing q :: .java g :: U.frames.tail := hend
  have hW' : U.WarmedH s₂.vm := hW₂
  have hr' : (({ U with heap := s₂.heap, slotsUsed := s₂.slotsUsed } : State).setVm s₂.vm).frames = .java g₀ :: r0 := hr1
  have hs₂ : s₂ = ((({ U with heap := s₂.heap, slotsUsed := s₂.slotsUsed } : State).setVm s₂.vm).setTop g).pushFrame (.throwing q) := by
    refine e3.trans ?_
    rw [hf₂, State.calling_eq hh.top, State.setFrames_setFrames, State.pushFrame, State.frames_setTop _ hr', State.setTop_of_frames _ hr', State.setFrames_setFrames, hr1]
    rfl
  have hsame : U.sameButNew ({ U with heap := s₂.heap, slotsUsed := s₂.slotsUsed } : State) [] 1 6 := by
    refine ⟨?_, z2, z3, z4, z5, z6⟩
    obtain ⟨t, ht, -⟩ := State.frames_cons hr1
    show ({ U with heap := s₂.heap, slotsUsed := s₂.slotsUsed } : State) = { U.setFrames U.frames with heap := s₂.heap, slotsUsed := s₂.slotsUsed }
    rw [State.setFrames_self ht]
  rw [← hU] at X₁
  have X2 : Stand p l e (headSpec (av_wsW y_Law_end b_Law_end 4 (some .int) [(0, 9, 12, 19)]) { frames := 7, cells := 1, slots := 6, locals := 160 }).room s m [Value.ref r, .int k, .ref ou].toArray below meth c9 (({ U with heap := s₂.heap, slotsUsed := s₂.slotsUsed } : State).setVm s₂.vm) [] 1 6 :=
    ⟨X₁.admits, X₁.cas, X₁.clock, X₁.frames, X₁.room, X₁.hears, X₁.method, X₁.code, (X₁.here.setHeapUsed s₂.heap s₂.slotsUsed).setVm hW'.alike, X₁.tail, State.WarmedH.trans X₁.warmed hW', X₁.limits, X₁.bytes, X₁.same.trans (hsame.setVm s.vm)⟩
  have hUh : U.heap = s.heap := by rw [hU]; exact hT
  have hclS : s.vm.findClass "java/lang/IllegalArgumentException" = some ce.cls := by
    have hz : U.vm.findClass "java/lang/IllegalArgumentException" = some ce.cls := hcl
    rw [X₁.warmed.alike.findClass] at hz
    exact hz
  have hpl : e.platform.magicAccessors = ({} : Platform).magicAccessors := by rw [X.admits.platform]
  obtain ⟨c3, c4, hc3, hc4, hasg⟩ := Cond.castable_spec (va_Nw.use (A := [Value.ref r, .int k, .ref ou].toArray) rfl hK.2.2.2.2.2.1.2.2.2)
  cases Option.some.inj (hc3.symm.trans hclS)
  obtain ⟨c5, hc5, hcl5⟩ := Cond.classLink_spec hown (hts _ le_k) e.platform hpl
  cases Option.some.inj (hc4.symm.trans hc5)
  have hxs := Prod.mk.inj hx9
  have hx1 : x9.startPc = 0 := hxs.1
  have hx2 : x9.endPc = 9 := (Prod.mk.inj hxs.2).1
  have hx3 : x9.handlerPc = 12 := (Prod.mk.inj (Prod.mk.inj hxs.2).2).1
  have hx4 : x9.catchType = 19 := (Prod.mk.inj (Prod.mk.inj hxs.2).2).2
  obtain ⟨vm', X3, st3⟩ := X2.thenCaughtThrough q (g := g) (by rw [hg]) (Steps.refl _) (show (({ U with heap := s₂.heap, slotsUsed := s₂.slotsUsed } : State).setVm s₂.vm).heap[q]? = some ce from hce) (by rw [hcv]; rfl) (by obtain ⟨k9, h9, -⟩ := Vm.findClass_spec hclS; exact ⟨k9, h9⟩) [] x9 [] ht9
    (fun z hz => nomatch hz) (by rw [hg]; show (decide (x9.startPc ≤ 4) && decide (4 < x9.endPc)) = true; rw [hx1, hx2]; decide) (Or.inr ⟨by rw [hx4]; decide, _, by rw [hx4]; exact hcl5, hasg⟩)
  have hkeep : ∀ a : Nat, a < s.heap.size → s₂.heap[a]? = s.heap[a]? := by
    intro a ha
    have hz : U.heap[a]? = some (s.heap[a]) := by rw [hUh]; exact Array.getElem?_eq_getElem ha
    obtain ⟨c', w1, w2, -, w4⟩ := z6 a _ hz
    rw [w1, same_cell w2 (fun i => w4 i (by simp)), Array.getElem?_eq_getElem ha]
  have hP2 : va_P D classes ws s₂.heap := hP.kept (fun kq q9 h9 => hkeep _ (hP kq q9 h9).lt)
  have hS2 : va_S (av_AA h s.heap.size) s.heap s₂.heap [] := ⟨by have := z2; rw [show (U.calling g mk [Value.ref r, .int k].toArray).heap = s.heap from hUh] at this; exact this, fun q9 h9 _ => hkeep q9 h9, fun _ h9 => by cases h9⟩
  have K12 : W p l e (headSpec (av_wsW y_Law_end b_Law_end 4 (some .int) [(0, 9, 12, 19)]) { frames := 7, cells := 1, slots := 6, locals := 160 }).room s m [Value.ref r, .int k, .ref ou].toArray below meth c9 s₂.heap [] 1 6 (MQ below (av_QQ D dA (av_AA h s.heap.size) (fun v h' => v = some (.int (nI 1)) ∧ h' = h)) [Value.ref r, .int k, .ref ou].toArray s 1 6 (av_AA h s.heap.size)) (F0 m 12 ls [.ref q]) := by
    refine lv_astore_n (lv' := [(3, .ref q), (0, .ref r), (1, .int k), (2, .ref ou)]) B.exec B.bytes d_Law_end_12 rfl hl (by decide) rfl (fun ls' hl' => ?_)
    refine lv_iconst (v := nI 1) B.exec B.bytes d_Law_end_13 (by decide) ?_
    exact W.zret (ty := .int) B.exec B.bytes B.returns rfl (fun t ht hW => ⟨⟨_, h, ws, rfl, ⟨rfl, rfl⟩, hr, by rw [ht]; exact hP2, hD⟩, hS2.F ht⟩) (fun _ hz => by cases hz) d_Law_end_14 (hlocks := B.notSynchronized)
  obtain ⟨t, a1, b1⟩ := K12 _ (show ((({ U with heap := s₂.heap, slotsUsed := s₂.slotsUsed } : State).setVm s₂.vm).setVm vm').heap = s₂.heap from rfl) X3
  refine ⟨t, ?_, b1⟩
  have st4 : Steps p.tables e below s₂ ((({ U with heap := s₂.heap, slotsUsed := s₂.slotsUsed } : State).setVm s₂.vm).setVm vm' |>.setTop (F0 m 12 ls [.ref q])) := by
    have z := st3
    rw [← hs₂, hx3, hg] at z
    exact z
  refine hstep₁ _ fun acts => ?_
  rw [doInvoke_state]
  rw [hU, hg] at hsteps
  exact hsteps.trans (st4.trans a1)
