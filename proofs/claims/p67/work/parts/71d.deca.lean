theorem dL_feeds_0 : decode cL_feeds 0 = .ok (.iconst 0, 1) := by decide +kernel
theorem dL_feeds_1 : decode cL_feeds 1 = .ok (.istore_n 2, 1) := by decide +kernel
theorem dL_feeds_2 : decode cL_feeds 2 = .ok (.iload_n 2, 1) := by decide +kernel
theorem dL_feeds_3 : decode cL_feeds 3 = .ok (.aload_n 1, 1) := by decide +kernel
theorem dL_feeds_4 : decode cL_feeds 4 = .ok (.invokevirtual 7, 3) := by decide +kernel
theorem dL_feeds_7 : decode cL_feeds 7 = .ok (.if_icmp .ge 93, 3) := by decide +kernel
theorem dL_feeds_10 : decode cL_feeds 10 = .ok (.iconst 5, 1) := by decide +kernel
theorem dL_feeds_11 : decode cL_feeds 11 = .ok (.newarray .int, 2) := by decide +kernel
theorem dL_feeds_13 : decode cL_feeds 13 = .ok (.astore_n 3, 1) := by decide +kernel
theorem dL_feeds_14 : decode cL_feeds 14 = .ok (.iconst 0, 1) := by decide +kernel
theorem dL_feeds_15 : decode cL_feeds 15 = .ok (.istore 4, 2) := by decide +kernel
theorem dL_feeds_17 : decode cL_feeds 17 = .ok (.iload 4, 2) := by decide +kernel
theorem dL_feeds_19 : decode cL_feeds 19 = .ok (.bipush 20, 2) := by decide +kernel
theorem dL_feeds_21 : decode cL_feeds 21 = .ok (.if_icmp .ge 49, 3) := by decide +kernel
theorem dL_feeds_24 : decode cL_feeds 24 = .ok (.aload_n 3, 1) := by decide +kernel
theorem dL_feeds_25 : decode cL_feeds 25 = .ok (.iload 4, 2) := by decide +kernel
theorem dL_feeds_27 : decode cL_feeds 27 = .ok (.iconst 4, 1) := by decide +kernel
theorem dL_feeds_28 : decode cL_feeds 28 = .ok (.idiv, 1) := by decide +kernel
theorem dL_feeds_29 : decode cL_feeds 29 = .ok (.aload_n 3, 1) := by decide +kernel
theorem dL_feeds_30 : decode cL_feeds 30 = .ok (.iload 4, 2) := by decide +kernel
theorem dL_feeds_32 : decode cL_feeds 32 = .ok (.iconst 4, 1) := by decide +kernel
theorem dL_feeds_33 : decode cL_feeds 33 = .ok (.idiv, 1) := by decide +kernel
theorem dL_feeds_34 : decode cL_feeds 34 = .ok (.iaload, 1) := by decide +kernel
theorem dL_feeds_35 : decode cL_feeds 35 = .ok (.bipush 8, 2) := by decide +kernel
theorem dL_feeds_37 : decode cL_feeds 37 = .ok (.ishl, 1) := by decide +kernel
theorem dL_feeds_38 : decode cL_feeds 38 = .ok (.iload_n 2, 1) := by decide +kernel
theorem dL_feeds_39 : decode cL_feeds 39 = .ok (.iload 4, 2) := by decide +kernel
theorem dL_feeds_41 : decode cL_feeds 41 = .ok (.iadd, 1) := by decide +kernel
theorem dL_feeds_42 : decode cL_feeds 42 = .ok (.aload_n 1, 1) := by decide +kernel
theorem dL_feeds_43 : decode cL_feeds 43 = .ok (.invokevirtual 7, 3) := by decide +kernel
theorem dL_feeds_46 : decode cL_feeds 46 = .ok (.if_icmp .ge 14, 3) := by decide +kernel
theorem dL_feeds_49 : decode cL_feeds 49 = .ok (.aload_n 1, 1) := by decide +kernel
theorem dL_feeds_50 : decode cL_feeds 50 = .ok (.iload_n 2, 1) := by decide +kernel
theorem dL_feeds_51 : decode cL_feeds 51 = .ok (.iload 4, 2) := by decide +kernel
theorem dL_feeds_53 : decode cL_feeds 53 = .ok (.iadd, 1) := by decide +kernel
theorem dL_feeds_54 : decode cL_feeds 54 = .ok (.invokevirtual 13, 3) := by decide +kernel
theorem dL_feeds_57 : decode cL_feeds 57 = .ok (.goto 5, 3) := by decide +kernel
theorem dL_feeds_60 : decode cL_feeds 60 = .ok (.bipush 32, 2) := by decide +kernel
theorem dL_feeds_62 : decode cL_feeds 62 = .ok (.ior, 1) := by decide +kernel
theorem dL_feeds_63 : decode cL_feeds 63 = .ok (.iastore, 1) := by decide +kernel
theorem dL_feeds_64 : decode cL_feeds 64 = .ok (.iinc 4 1, 3) := by decide +kernel
theorem dL_feeds_67 : decode cL_feeds 67 = .ok (.goto (-50), 3) := by decide +kernel
theorem dL_feeds_70 : decode cL_feeds 70 = .ok (.aload_n 0, 1) := by decide +kernel
theorem dL_feeds_71 : decode cL_feeds 71 = .ok (.aload_n 3, 1) := by decide +kernel
theorem dL_feeds_72 : decode cL_feeds 72 = .ok (.iconst 0, 1) := by decide +kernel
theorem dL_feeds_73 : decode cL_feeds 73 = .ok (.iaload, 1) := by decide +kernel
theorem dL_feeds_74 : decode cL_feeds 74 = .ok (.aload_n 3, 1) := by decide +kernel
theorem dL_feeds_75 : decode cL_feeds 75 = .ok (.iconst 1, 1) := by decide +kernel
theorem dL_feeds_76 : decode cL_feeds 76 = .ok (.iaload, 1) := by decide +kernel
theorem dL_feeds_77 : decode cL_feeds 77 = .ok (.aload_n 3, 1) := by decide +kernel
theorem dL_feeds_78 : decode cL_feeds 78 = .ok (.iconst 2, 1) := by decide +kernel
theorem dL_feeds_79 : decode cL_feeds 79 = .ok (.iaload, 1) := by decide +kernel
theorem dL_feeds_80 : decode cL_feeds 80 = .ok (.aload_n 3, 1) := by decide +kernel
theorem dL_feeds_81 : decode cL_feeds 81 = .ok (.iconst 3, 1) := by decide +kernel
theorem dL_feeds_82 : decode cL_feeds 82 = .ok (.iaload, 1) := by decide +kernel
theorem dL_feeds_83 : decode cL_feeds 83 = .ok (.aload_n 3, 1) := by decide +kernel
theorem dL_feeds_84 : decode cL_feeds 84 = .ok (.iconst 4, 1) := by decide +kernel
theorem dL_feeds_85 : decode cL_feeds 85 = .ok (.iaload, 1) := by decide +kernel
theorem dL_feeds_86 : decode cL_feeds 86 = .ok (.invokevirtual 17, 3) := by decide +kernel
theorem dL_feeds_89 : decode cL_feeds 89 = .ok (.ifCond .ge 5, 3) := by decide +kernel
theorem dL_feeds_92 : decode cL_feeds 92 = .ok (.iconst 0, 1) := by decide +kernel
theorem dL_feeds_93 : decode cL_feeds 93 = .ok (.ireturn, 1) := by decide +kernel
theorem dL_feeds_94 : decode cL_feeds 94 = .ok (.iinc 2 20, 3) := by decide +kernel
theorem dL_feeds_97 : decode cL_feeds 97 = .ok (.goto (-95), 3) := by decide +kernel
theorem dL_feeds_100 : decode cL_feeds 100 = .ok (.iconst 1, 1) := by decide +kernel
theorem dL_feeds_101 : decode cL_feeds 101 = .ok (.ireturn, 1) := by decide +kernel
theorem dL_tell_0 : decode cL_tell 0 = .ok (.aload_n 0, 1) := by decide +kernel
theorem dL_tell_1 : decode cL_tell 1 = .ok (.aload_n 1, 1) := by decide +kernel
theorem dL_tell_2 : decode cL_tell 2 = .ok (.invokestatic 23, 3) := by decide +kernel
theorem dL_tell_5 : decode cL_tell 5 = .ok (.ifCond .eq 14, 3) := by decide +kernel
theorem dL_tell_8 : decode cL_tell 8 = .ok (.aload_n 0, 1) := by decide +kernel
theorem dL_tell_9 : decode cL_tell 9 = .ok (.aload_n 1, 1) := by decide +kernel
theorem dL_tell_10 : decode cL_tell 10 = .ok (.invokevirtual 7, 3) := by decide +kernel
theorem dL_tell_13 : decode cL_tell 13 = .ok (.invokevirtual 29, 3) := by decide +kernel
theorem dL_tell_16 : decode cL_tell 16 = .ok (.goto 5, 3) := by decide +kernel
theorem dL_tell_19 : decode cL_tell 19 = .ok (.bipush (-9), 2) := by decide +kernel
theorem dL_tell_21 : decode cL_tell 21 = .ok (.ireturn, 1) := by decide +kernel
theorem dL_calls_0 : decode cL_calls 0 = .ok (.iload_n 1, 1) := by decide +kernel
theorem dL_calls_1 : decode cL_calls 1 = .ok (.tableswitch 450 0 34 #[155, 162, 169, 186, 194, 202, 210, 227, 237, 244, 251, 258, 265, 273, 280, 287, 297, 305, 315, 322, 329, 337, 354, 362, 368, 375, 382, 389, 399, 450, 409, 416, 424, 434, 442], 155) := by decide +kernel
theorem dL_calls_156 : decode cL_calls 156 = .ok (.aload_n 0, 1) := by decide +kernel
theorem dL_calls_157 : decode cL_calls 157 = .ok (.iload_n 2, 1) := by decide +kernel
theorem dL_calls_158 : decode cL_calls 158 = .ok (.invokevirtual 33, 3) := by decide +kernel
theorem dL_calls_161 : decode cL_calls 161 = .ok (.i2l, 1) := by decide +kernel
theorem dL_calls_162 : decode cL_calls 162 = .ok (.lreturn, 1) := by decide +kernel
theorem dL_calls_163 : decode cL_calls 163 = .ok (.aload_n 0, 1) := by decide +kernel
theorem dL_calls_164 : decode cL_calls 164 = .ok (.iload_n 2, 1) := by decide +kernel
theorem dL_calls_165 : decode cL_calls 165 = .ok (.invokevirtual 36, 3) := by decide +kernel
theorem dL_calls_168 : decode cL_calls 168 = .ok (.i2l, 1) := by decide +kernel
theorem dL_calls_169 : decode cL_calls 169 = .ok (.lreturn, 1) := by decide +kernel
theorem dL_calls_170 : decode cL_calls 170 = .ok (.aload_n 0, 1) := by decide +kernel
theorem dL_calls_171 : decode cL_calls 171 = .ok (.iload_n 2, 1) := by decide +kernel
theorem dL_calls_172 : decode cL_calls 172 = .ok (.iload_n 3, 1) := by decide +kernel
theorem dL_calls_173 : decode cL_calls 173 = .ok (.iconst 1, 1) := by decide +kernel
theorem dL_calls_174 : decode cL_calls 174 = .ok (.if_icmp .ne 7, 3) := by decide +kernel
theorem dL_calls_177 : decode cL_calls 177 = .ok (.iconst 1, 1) := by decide +kernel
theorem dL_calls_178 : decode cL_calls 178 = .ok (.goto 4, 3) := by decide +kernel
theorem dL_calls_181 : decode cL_calls 181 = .ok (.iconst 0, 1) := by decide +kernel
theorem dL_calls_182 : decode cL_calls 182 = .ok (.invokevirtual 39, 3) := by decide +kernel
theorem dL_calls_185 : decode cL_calls 185 = .ok (.i2l, 1) := by decide +kernel
theorem dL_calls_186 : decode cL_calls 186 = .ok (.lreturn, 1) := by decide +kernel
theorem dL_calls_187 : decode cL_calls 187 = .ok (.aload_n 0, 1) := by decide +kernel
theorem dL_calls_188 : decode cL_calls 188 = .ok (.iload_n 2, 1) := by decide +kernel
theorem dL_calls_189 : decode cL_calls 189 = .ok (.iload_n 3, 1) := by decide +kernel
theorem dL_calls_190 : decode cL_calls 190 = .ok (.invokevirtual 43, 3) := by decide +kernel
theorem dL_calls_193 : decode cL_calls 193 = .ok (.i2l, 1) := by decide +kernel
theorem dL_calls_194 : decode cL_calls 194 = .ok (.lreturn, 1) := by decide +kernel
theorem dL_calls_195 : decode cL_calls 195 = .ok (.aload_n 0, 1) := by decide +kernel
theorem dL_calls_196 : decode cL_calls 196 = .ok (.iload_n 2, 1) := by decide +kernel
theorem dL_calls_197 : decode cL_calls 197 = .ok (.iload_n 3, 1) := by decide +kernel
theorem dL_calls_198 : decode cL_calls 198 = .ok (.invokevirtual 47, 3) := by decide +kernel
theorem dL_calls_201 : decode cL_calls 201 = .ok (.i2l, 1) := by decide +kernel
theorem dL_calls_202 : decode cL_calls 202 = .ok (.lreturn, 1) := by decide +kernel
theorem dL_calls_203 : decode cL_calls 203 = .ok (.aload_n 0, 1) := by decide +kernel
theorem dL_calls_204 : decode cL_calls 204 = .ok (.iload_n 2, 1) := by decide +kernel
theorem dL_calls_205 : decode cL_calls 205 = .ok (.iload_n 3, 1) := by decide +kernel
theorem dL_calls_206 : decode cL_calls 206 = .ok (.invokevirtual 50, 3) := by decide +kernel
theorem dL_calls_209 : decode cL_calls 209 = .ok (.i2l, 1) := by decide +kernel
theorem dL_calls_210 : decode cL_calls 210 = .ok (.lreturn, 1) := by decide +kernel
theorem dL_calls_211 : decode cL_calls 211 = .ok (.aload_n 0, 1) := by decide +kernel
theorem dL_calls_212 : decode cL_calls 212 = .ok (.iload_n 2, 1) := by decide +kernel
theorem dL_calls_213 : decode cL_calls 213 = .ok (.iload_n 3, 1) := by decide +kernel
theorem dL_calls_214 : decode cL_calls 214 = .ok (.iload 4, 2) := by decide +kernel
theorem dL_calls_216 : decode cL_calls 216 = .ok (.invokevirtual 53, 3) := by decide +kernel
theorem dL_calls_219 : decode cL_calls 219 = .ok (.ifCond .eq 7, 3) := by decide +kernel
theorem dL_calls_222 : decode cL_calls 222 = .ok (.lconst 1, 1) := by decide +kernel
theorem dL_calls_223 : decode cL_calls 223 = .ok (.goto 4, 3) := by decide +kernel
theorem dL_calls_226 : decode cL_calls 226 = .ok (.lconst 0, 1) := by decide +kernel
theorem dL_calls_227 : decode cL_calls 227 = .ok (.lreturn, 1) := by decide +kernel
theorem dL_calls_228 : decode cL_calls 228 = .ok (.aload_n 0, 1) := by decide +kernel
theorem dL_calls_229 : decode cL_calls 229 = .ok (.iload_n 2, 1) := by decide +kernel
theorem dL_calls_230 : decode cL_calls 230 = .ok (.iload_n 3, 1) := by decide +kernel
theorem dL_calls_231 : decode cL_calls 231 = .ok (.iload 4, 2) := by decide +kernel
theorem dL_calls_233 : decode cL_calls 233 = .ok (.invokevirtual 57, 3) := by decide +kernel
theorem dL_calls_236 : decode cL_calls 236 = .ok (.i2l, 1) := by decide +kernel
theorem dL_calls_237 : decode cL_calls 237 = .ok (.lreturn, 1) := by decide +kernel
theorem dL_calls_238 : decode cL_calls 238 = .ok (.aload_n 0, 1) := by decide +kernel
theorem dL_calls_239 : decode cL_calls 239 = .ok (.iload_n 2, 1) := by decide +kernel
theorem dL_calls_240 : decode cL_calls 240 = .ok (.invokevirtual 61, 3) := by decide +kernel
theorem dL_calls_243 : decode cL_calls 243 = .ok (.i2l, 1) := by decide +kernel
theorem dL_calls_244 : decode cL_calls 244 = .ok (.lreturn, 1) := by decide +kernel
theorem dL_calls_245 : decode cL_calls 245 = .ok (.aload_n 0, 1) := by decide +kernel
theorem dL_calls_246 : decode cL_calls 246 = .ok (.iload_n 2, 1) := by decide +kernel
theorem dL_calls_247 : decode cL_calls 247 = .ok (.invokevirtual 64, 3) := by decide +kernel
theorem dL_calls_250 : decode cL_calls 250 = .ok (.i2l, 1) := by decide +kernel
theorem dL_calls_251 : decode cL_calls 251 = .ok (.lreturn, 1) := by decide +kernel
theorem dL_calls_252 : decode cL_calls 252 = .ok (.aload_n 0, 1) := by decide +kernel
theorem dL_calls_253 : decode cL_calls 253 = .ok (.iload_n 2, 1) := by decide +kernel
theorem dL_calls_254 : decode cL_calls 254 = .ok (.invokevirtual 67, 3) := by decide +kernel
theorem dL_calls_257 : decode cL_calls 257 = .ok (.i2l, 1) := by decide +kernel
theorem dL_calls_258 : decode cL_calls 258 = .ok (.lreturn, 1) := by decide +kernel
theorem dL_calls_259 : decode cL_calls 259 = .ok (.aload_n 0, 1) := by decide +kernel
theorem dL_calls_260 : decode cL_calls 260 = .ok (.iload_n 2, 1) := by decide +kernel
theorem dL_calls_261 : decode cL_calls 261 = .ok (.invokevirtual 70, 3) := by decide +kernel
theorem dL_calls_264 : decode cL_calls 264 = .ok (.i2l, 1) := by decide +kernel
theorem dL_calls_265 : decode cL_calls 265 = .ok (.lreturn, 1) := by decide +kernel
theorem dL_calls_266 : decode cL_calls 266 = .ok (.aload_n 0, 1) := by decide +kernel
theorem dL_calls_267 : decode cL_calls 267 = .ok (.iload_n 2, 1) := by decide +kernel
theorem dL_calls_268 : decode cL_calls 268 = .ok (.iload_n 3, 1) := by decide +kernel
theorem dL_calls_269 : decode cL_calls 269 = .ok (.invokevirtual 73, 3) := by decide +kernel
theorem dL_calls_272 : decode cL_calls 272 = .ok (.i2l, 1) := by decide +kernel
theorem dL_calls_273 : decode cL_calls 273 = .ok (.lreturn, 1) := by decide +kernel
theorem dL_calls_274 : decode cL_calls 274 = .ok (.aload_n 0, 1) := by decide +kernel
theorem dL_calls_275 : decode cL_calls 275 = .ok (.iload_n 2, 1) := by decide +kernel
theorem dL_calls_276 : decode cL_calls 276 = .ok (.invokevirtual 76, 3) := by decide +kernel
theorem dL_calls_279 : decode cL_calls 279 = .ok (.i2l, 1) := by decide +kernel
theorem dL_calls_280 : decode cL_calls 280 = .ok (.lreturn, 1) := by decide +kernel
theorem dL_calls_281 : decode cL_calls 281 = .ok (.aload_n 0, 1) := by decide +kernel
theorem dL_calls_282 : decode cL_calls 282 = .ok (.iload_n 2, 1) := by decide +kernel
theorem dL_calls_283 : decode cL_calls 283 = .ok (.invokevirtual 79, 3) := by decide +kernel
theorem dL_calls_286 : decode cL_calls 286 = .ok (.i2l, 1) := by decide +kernel
theorem dL_calls_287 : decode cL_calls 287 = .ok (.lreturn, 1) := by decide +kernel
theorem dL_calls_288 : decode cL_calls 288 = .ok (.aload_n 0, 1) := by decide +kernel
theorem dL_calls_289 : decode cL_calls 289 = .ok (.iload_n 2, 1) := by decide +kernel
theorem dL_calls_290 : decode cL_calls 290 = .ok (.iload_n 3, 1) := by decide +kernel
theorem dL_calls_291 : decode cL_calls 291 = .ok (.iload 4, 2) := by decide +kernel
theorem dL_calls_293 : decode cL_calls 293 = .ok (.invokevirtual 82, 3) := by decide +kernel
theorem dL_calls_296 : decode cL_calls 296 = .ok (.i2l, 1) := by decide +kernel
theorem dL_calls_297 : decode cL_calls 297 = .ok (.lreturn, 1) := by decide +kernel
theorem dL_calls_298 : decode cL_calls 298 = .ok (.aload_n 0, 1) := by decide +kernel
theorem dL_calls_299 : decode cL_calls 299 = .ok (.iload_n 2, 1) := by decide +kernel
theorem dL_calls_300 : decode cL_calls 300 = .ok (.iload_n 3, 1) := by decide +kernel
theorem dL_calls_301 : decode cL_calls 301 = .ok (.invokevirtual 85, 3) := by decide +kernel
theorem dL_calls_304 : decode cL_calls 304 = .ok (.i2l, 1) := by decide +kernel
theorem dL_calls_305 : decode cL_calls 305 = .ok (.lreturn, 1) := by decide +kernel
theorem dL_calls_306 : decode cL_calls 306 = .ok (.aload_n 0, 1) := by decide +kernel
theorem dL_calls_307 : decode cL_calls 307 = .ok (.iload_n 2, 1) := by decide +kernel
theorem dL_calls_308 : decode cL_calls 308 = .ok (.iload_n 3, 1) := by decide +kernel
theorem dL_calls_309 : decode cL_calls 309 = .ok (.iload 4, 2) := by decide +kernel
theorem dL_calls_311 : decode cL_calls 311 = .ok (.invokevirtual 88, 3) := by decide +kernel
theorem dL_calls_314 : decode cL_calls 314 = .ok (.i2l, 1) := by decide +kernel
theorem dL_calls_315 : decode cL_calls 315 = .ok (.lreturn, 1) := by decide +kernel
theorem dL_calls_316 : decode cL_calls 316 = .ok (.aload_n 0, 1) := by decide +kernel
theorem dL_calls_317 : decode cL_calls 317 = .ok (.iload_n 2, 1) := by decide +kernel
theorem dL_calls_318 : decode cL_calls 318 = .ok (.invokevirtual 91, 3) := by decide +kernel
theorem dL_calls_321 : decode cL_calls 321 = .ok (.i2l, 1) := by decide +kernel
theorem dL_calls_322 : decode cL_calls 322 = .ok (.lreturn, 1) := by decide +kernel
theorem dL_calls_323 : decode cL_calls 323 = .ok (.aload_n 0, 1) := by decide +kernel
theorem dL_calls_324 : decode cL_calls 324 = .ok (.iload_n 2, 1) := by decide +kernel
theorem dL_calls_325 : decode cL_calls 325 = .ok (.invokevirtual 94, 3) := by decide +kernel
theorem dL_calls_328 : decode cL_calls 328 = .ok (.i2l, 1) := by decide +kernel
theorem dL_calls_329 : decode cL_calls 329 = .ok (.lreturn, 1) := by decide +kernel
theorem dL_calls_330 : decode cL_calls 330 = .ok (.aload_n 0, 1) := by decide +kernel
theorem dL_calls_331 : decode cL_calls 331 = .ok (.iload_n 2, 1) := by decide +kernel
theorem dL_calls_332 : decode cL_calls 332 = .ok (.iload_n 3, 1) := by decide +kernel
theorem dL_calls_333 : decode cL_calls 333 = .ok (.invokevirtual 97, 3) := by decide +kernel
theorem dL_calls_336 : decode cL_calls 336 = .ok (.i2l, 1) := by decide +kernel
theorem dL_calls_337 : decode cL_calls 337 = .ok (.lreturn, 1) := by decide +kernel
theorem dL_calls_338 : decode cL_calls 338 = .ok (.aload_n 0, 1) := by decide +kernel
theorem dL_calls_339 : decode cL_calls 339 = .ok (.iload_n 2, 1) := by decide +kernel
theorem dL_calls_340 : decode cL_calls 340 = .ok (.iload_n 3, 1) := by decide +kernel
theorem dL_calls_341 : decode cL_calls 341 = .ok (.iconst 1, 1) := by decide +kernel
theorem dL_calls_342 : decode cL_calls 342 = .ok (.if_icmp .ne 7, 3) := by decide +kernel
theorem dL_calls_345 : decode cL_calls 345 = .ok (.iconst 1, 1) := by decide +kernel
theorem dL_calls_346 : decode cL_calls 346 = .ok (.goto 4, 3) := by decide +kernel
theorem dL_calls_349 : decode cL_calls 349 = .ok (.iconst 0, 1) := by decide +kernel
theorem dL_calls_350 : decode cL_calls 350 = .ok (.invokevirtual 100, 3) := by decide +kernel
theorem dL_calls_353 : decode cL_calls 353 = .ok (.i2l, 1) := by decide +kernel
theorem dL_calls_354 : decode cL_calls 354 = .ok (.lreturn, 1) := by decide +kernel
theorem dL_calls_355 : decode cL_calls 355 = .ok (.aload_n 0, 1) := by decide +kernel
theorem dL_calls_356 : decode cL_calls 356 = .ok (.iload_n 2, 1) := by decide +kernel
theorem dL_calls_357 : decode cL_calls 357 = .ok (.iload_n 3, 1) := by decide +kernel
theorem dL_calls_358 : decode cL_calls 358 = .ok (.invokevirtual 103, 3) := by decide +kernel
theorem dL_calls_361 : decode cL_calls 361 = .ok (.i2l, 1) := by decide +kernel
theorem dL_calls_362 : decode cL_calls 362 = .ok (.lreturn, 1) := by decide +kernel
theorem dL_calls_363 : decode cL_calls 363 = .ok (.aload_n 0, 1) := by decide +kernel
theorem dL_calls_364 : decode cL_calls 364 = .ok (.invokevirtual 106, 3) := by decide +kernel
theorem dL_calls_367 : decode cL_calls 367 = .ok (.i2l, 1) := by decide +kernel
theorem dL_calls_368 : decode cL_calls 368 = .ok (.lreturn, 1) := by decide +kernel
theorem dL_calls_369 : decode cL_calls 369 = .ok (.aload_n 0, 1) := by decide +kernel
theorem dL_calls_370 : decode cL_calls 370 = .ok (.iload_n 2, 1) := by decide +kernel
theorem dL_calls_371 : decode cL_calls 371 = .ok (.invokevirtual 109, 3) := by decide +kernel
theorem dL_calls_374 : decode cL_calls 374 = .ok (.i2l, 1) := by decide +kernel
theorem dL_calls_375 : decode cL_calls 375 = .ok (.lreturn, 1) := by decide +kernel
theorem dL_calls_376 : decode cL_calls 376 = .ok (.aload_n 0, 1) := by decide +kernel
theorem dL_calls_377 : decode cL_calls 377 = .ok (.iload_n 2, 1) := by decide +kernel
theorem dL_calls_378 : decode cL_calls 378 = .ok (.invokevirtual 112, 3) := by decide +kernel
theorem dL_calls_381 : decode cL_calls 381 = .ok (.i2l, 1) := by decide +kernel
theorem dL_calls_382 : decode cL_calls 382 = .ok (.lreturn, 1) := by decide +kernel
theorem dL_calls_383 : decode cL_calls 383 = .ok (.aload_n 0, 1) := by decide +kernel
theorem dL_calls_384 : decode cL_calls 384 = .ok (.iload_n 2, 1) := by decide +kernel
theorem dL_calls_385 : decode cL_calls 385 = .ok (.invokevirtual 29, 3) := by decide +kernel
theorem dL_calls_388 : decode cL_calls 388 = .ok (.i2l, 1) := by decide +kernel
theorem dL_calls_389 : decode cL_calls 389 = .ok (.lreturn, 1) := by decide +kernel
theorem dL_calls_390 : decode cL_calls 390 = .ok (.aload_n 0, 1) := by decide +kernel
theorem dL_calls_391 : decode cL_calls 391 = .ok (.iload_n 2, 1) := by decide +kernel
theorem dL_calls_392 : decode cL_calls 392 = .ok (.iload_n 3, 1) := by decide +kernel
theorem dL_calls_393 : decode cL_calls 393 = .ok (.iload 4, 2) := by decide +kernel
theorem dL_calls_395 : decode cL_calls 395 = .ok (.invokevirtual 115, 3) := by decide +kernel
theorem dL_calls_398 : decode cL_calls 398 = .ok (.i2l, 1) := by decide +kernel
theorem dL_calls_399 : decode cL_calls 399 = .ok (.lreturn, 1) := by decide +kernel
theorem dL_calls_400 : decode cL_calls 400 = .ok (.aload_n 0, 1) := by decide +kernel
theorem dL_calls_401 : decode cL_calls 401 = .ok (.iload_n 2, 1) := by decide +kernel
theorem dL_calls_402 : decode cL_calls 402 = .ok (.iload_n 3, 1) := by decide +kernel
theorem dL_calls_403 : decode cL_calls 403 = .ok (.iload 4, 2) := by decide +kernel
theorem dL_calls_405 : decode cL_calls 405 = .ok (.invokevirtual 118, 3) := by decide +kernel
theorem dL_calls_408 : decode cL_calls 408 = .ok (.i2l, 1) := by decide +kernel
theorem dL_calls_409 : decode cL_calls 409 = .ok (.lreturn, 1) := by decide +kernel
theorem dL_calls_410 : decode cL_calls 410 = .ok (.aload_n 0, 1) := by decide +kernel
theorem dL_calls_411 : decode cL_calls 411 = .ok (.iload_n 2, 1) := by decide +kernel
theorem dL_calls_412 : decode cL_calls 412 = .ok (.invokevirtual 121, 3) := by decide +kernel
theorem dL_calls_415 : decode cL_calls 415 = .ok (.i2l, 1) := by decide +kernel
theorem dL_calls_416 : decode cL_calls 416 = .ok (.lreturn, 1) := by decide +kernel
theorem dL_calls_417 : decode cL_calls 417 = .ok (.aload_n 0, 1) := by decide +kernel
theorem dL_calls_418 : decode cL_calls 418 = .ok (.iload_n 2, 1) := by decide +kernel
theorem dL_calls_419 : decode cL_calls 419 = .ok (.iload_n 3, 1) := by decide +kernel
theorem dL_calls_420 : decode cL_calls 420 = .ok (.invokevirtual 124, 3) := by decide +kernel
theorem dL_calls_423 : decode cL_calls 423 = .ok (.i2l, 1) := by decide +kernel
theorem dL_calls_424 : decode cL_calls 424 = .ok (.lreturn, 1) := by decide +kernel
theorem dL_calls_425 : decode cL_calls 425 = .ok (.aload_n 0, 1) := by decide +kernel
theorem dL_calls_426 : decode cL_calls 426 = .ok (.iload_n 2, 1) := by decide +kernel
theorem dL_calls_427 : decode cL_calls 427 = .ok (.iload_n 3, 1) := by decide +kernel
theorem dL_calls_428 : decode cL_calls 428 = .ok (.iload 4, 2) := by decide +kernel
theorem dL_calls_430 : decode cL_calls 430 = .ok (.invokevirtual 127, 3) := by decide +kernel
theorem dL_calls_433 : decode cL_calls 433 = .ok (.i2l, 1) := by decide +kernel
theorem dL_calls_434 : decode cL_calls 434 = .ok (.lreturn, 1) := by decide +kernel
theorem dL_calls_435 : decode cL_calls 435 = .ok (.aload_n 0, 1) := by decide +kernel
theorem dL_calls_436 : decode cL_calls 436 = .ok (.iload_n 2, 1) := by decide +kernel
theorem dL_calls_437 : decode cL_calls 437 = .ok (.iload_n 3, 1) := by decide +kernel
theorem dL_calls_438 : decode cL_calls 438 = .ok (.invokevirtual 130, 3) := by decide +kernel
theorem dL_calls_441 : decode cL_calls 441 = .ok (.i2l, 1) := by decide +kernel
theorem dL_calls_442 : decode cL_calls 442 = .ok (.lreturn, 1) := by decide +kernel
theorem dL_calls_443 : decode cL_calls 443 = .ok (.aload_n 0, 1) := by decide +kernel
theorem dL_calls_444 : decode cL_calls 444 = .ok (.iload_n 2, 1) := by decide +kernel
theorem dL_calls_445 : decode cL_calls 445 = .ok (.iload_n 3, 1) := by decide +kernel
theorem dL_calls_446 : decode cL_calls 446 = .ok (.invokevirtual 133, 3) := by decide +kernel
theorem dL_calls_449 : decode cL_calls 449 = .ok (.i2l, 1) := by decide +kernel
theorem dL_calls_450 : decode cL_calls 450 = .ok (.lreturn, 1) := by decide +kernel
theorem dL_calls_451 : decode cL_calls 451 = .ok (.aload_n 0, 1) := by decide +kernel
theorem dL_calls_452 : decode cL_calls 452 = .ok (.invokevirtual 136, 3) := by decide +kernel
theorem dL_calls_455 : decode cL_calls 455 = .ok (.i2l, 1) := by decide +kernel
theorem dL_calls_456 : decode cL_calls 456 = .ok (.lreturn, 1) := by decide +kernel
theorem dL_thrown_0 : decode cL_thrown 0 = .ok (.aload_n 0, 1) := by decide +kernel
theorem dL_thrown_1 : decode cL_thrown 1 = .ok (.iload_n 1, 1) := by decide +kernel
theorem dL_thrown_2 : decode cL_thrown 2 = .ok (.iload_n 2, 1) := by decide +kernel
theorem dL_thrown_3 : decode cL_thrown 3 = .ok (.iload_n 3, 1) := by decide +kernel
theorem dL_thrown_4 : decode cL_thrown 4 = .ok (.iload 4, 2) := by decide +kernel
theorem dL_thrown_6 : decode cL_thrown 6 = .ok (.invokestatic 139, 3) := by decide +kernel
theorem dL_thrown_9 : decode cL_thrown 9 = .ok (.ldc2_w 143, 3) := by decide +kernel
theorem dL_thrown_12 : decode cL_thrown 12 = .ok (.lcmp, 1) := by decide +kernel
theorem dL_thrown_13 : decode cL_thrown 13 = .ok (.ifCond .ne 7, 3) := by decide +kernel
theorem dL_thrown_16 : decode cL_thrown 16 = .ok (.iconst 0, 1) := by decide +kernel
theorem dL_thrown_17 : decode cL_thrown 17 = .ok (.goto 4, 3) := by decide +kernel
theorem dL_thrown_20 : decode cL_thrown 20 = .ok (.iconst 0, 1) := by decide +kernel
theorem dL_thrown_21 : decode cL_thrown 21 = .ok (.ireturn, 1) := by decide +kernel
theorem dL_thrown_22 : decode cL_thrown 22 = .ok (.astore 5, 2) := by decide +kernel
theorem dL_thrown_24 : decode cL_thrown 24 = .ok (.iconst 1, 1) := by decide +kernel
theorem dL_thrown_25 : decode cL_thrown 25 = .ok (.ireturn, 1) := by decide +kernel
theorem dL_thrown_26 : decode cL_thrown 26 = .ok (.astore 5, 2) := by decide +kernel
theorem dL_thrown_28 : decode cL_thrown 28 = .ok (.iconst 2, 1) := by decide +kernel
theorem dL_thrown_29 : decode cL_thrown 29 = .ok (.ireturn, 1) := by decide +kernel
theorem dL_thrown_30 : decode cL_thrown 30 = .ok (.astore 5, 2) := by decide +kernel
theorem dL_thrown_32 : decode cL_thrown 32 = .ok (.iconst 3, 1) := by decide +kernel
theorem dL_thrown_33 : decode cL_thrown 33 = .ok (.ireturn, 1) := by decide +kernel
theorem dL_isLike_0 : decode cL_isLike 0 = .ok (.aload_n 0, 1) := by decide +kernel
theorem dL_isLike_1 : decode cL_isLike 1 = .ok (.invokevirtual 151, 3) := by decide +kernel
theorem dL_isLike_4 : decode cL_isLike 4 = .ok (.aload_n 1, 1) := by decide +kernel
theorem dL_isLike_5 : decode cL_isLike 5 = .ok (.getfield 154, 3) := by decide +kernel
theorem dL_isLike_8 : decode cL_isLike 8 = .ok (.arraylength, 1) := by decide +kernel
theorem dL_isLike_9 : decode cL_isLike 9 = .ok (.if_icmp .ne 25, 3) := by decide +kernel
theorem dL_isLike_12 : decode cL_isLike 12 = .ok (.aload_n 0, 1) := by decide +kernel
theorem dL_isLike_13 : decode cL_isLike 13 = .ok (.invokevirtual 136, 3) := by decide +kernel
theorem dL_isLike_16 : decode cL_isLike 16 = .ok (.aload_n 1, 1) := by decide +kernel
theorem dL_isLike_17 : decode cL_isLike 17 = .ok (.invokevirtual 160, 3) := by decide +kernel
theorem dL_isLike_20 : decode cL_isLike 20 = .ok (.if_icmp .ne 14, 3) := by decide +kernel
theorem dL_isLike_23 : decode cL_isLike 23 = .ok (.aload_n 0, 1) := by decide +kernel
theorem dL_isLike_24 : decode cL_isLike 24 = .ok (.invokevirtual 161, 3) := by decide +kernel
theorem dL_isLike_27 : decode cL_isLike 27 = .ok (.aload_n 1, 1) := by decide +kernel
theorem dL_isLike_28 : decode cL_isLike 28 = .ok (.getfield 164, 3) := by decide +kernel
theorem dL_isLike_31 : decode cL_isLike 31 = .ok (.if_icmp .eq 5, 3) := by decide +kernel
theorem dL_isLike_34 : decode cL_isLike 34 = .ok (.iconst 0, 1) := by decide +kernel
theorem dL_isLike_35 : decode cL_isLike 35 = .ok (.ireturn, 1) := by decide +kernel
theorem dL_isLike_36 : decode cL_isLike 36 = .ok (.iconst 0, 1) := by decide +kernel
theorem dL_isLike_37 : decode cL_isLike 37 = .ok (.istore_n 2, 1) := by decide +kernel
theorem dL_isLike_38 : decode cL_isLike 38 = .ok (.iload_n 2, 1) := by decide +kernel
theorem dL_isLike_39 : decode cL_isLike 39 = .ok (.iconst 5, 1) := by decide +kernel
theorem dL_isLike_40 : decode cL_isLike 40 = .ok (.if_icmp .ge 25, 3) := by decide +kernel
theorem dL_isLike_43 : decode cL_isLike 43 = .ok (.aload_n 0, 1) := by decide +kernel
theorem dL_isLike_44 : decode cL_isLike 44 = .ok (.iload_n 2, 1) := by decide +kernel
theorem dL_isLike_45 : decode cL_isLike 45 = .ok (.invokevirtual 33, 3) := by decide +kernel
theorem dL_isLike_48 : decode cL_isLike 48 = .ok (.aload_n 1, 1) := by decide +kernel
theorem dL_isLike_49 : decode cL_isLike 49 = .ok (.getfield 168, 3) := by decide +kernel
theorem dL_isLike_52 : decode cL_isLike 52 = .ok (.iload_n 2, 1) := by decide +kernel
theorem dL_isLike_53 : decode cL_isLike 53 = .ok (.iaload, 1) := by decide +kernel
theorem dL_isLike_54 : decode cL_isLike 54 = .ok (.if_icmp .eq 5, 3) := by decide +kernel
theorem dL_isLike_57 : decode cL_isLike 57 = .ok (.iconst 0, 1) := by decide +kernel
theorem dL_isLike_58 : decode cL_isLike 58 = .ok (.ireturn, 1) := by decide +kernel
theorem dL_isLike_59 : decode cL_isLike 59 = .ok (.iinc 2 1, 3) := by decide +kernel
theorem dL_isLike_62 : decode cL_isLike 62 = .ok (.goto (-24), 3) := by decide +kernel
theorem dL_isLike_65 : decode cL_isLike 65 = .ok (.iconst 0, 1) := by decide +kernel
theorem dL_isLike_66 : decode cL_isLike 66 = .ok (.istore_n 2, 1) := by decide +kernel
theorem dL_isLike_67 : decode cL_isLike 67 = .ok (.iload_n 2, 1) := by decide +kernel
theorem dL_isLike_68 : decode cL_isLike 68 = .ok (.bipush 9, 2) := by decide +kernel
theorem dL_isLike_70 : decode cL_isLike 70 = .ok (.if_icmp .ge 25, 3) := by decide +kernel
theorem dL_isLike_73 : decode cL_isLike 73 = .ok (.aload_n 0, 1) := by decide +kernel
theorem dL_isLike_74 : decode cL_isLike 74 = .ok (.iload_n 2, 1) := by decide +kernel
theorem dL_isLike_75 : decode cL_isLike 75 = .ok (.invokevirtual 70, 3) := by decide +kernel
theorem dL_isLike_78 : decode cL_isLike 78 = .ok (.aload_n 1, 1) := by decide +kernel
theorem dL_isLike_79 : decode cL_isLike 79 = .ok (.getfield 172, 3) := by decide +kernel
theorem dL_isLike_82 : decode cL_isLike 82 = .ok (.iload_n 2, 1) := by decide +kernel
theorem dL_isLike_83 : decode cL_isLike 83 = .ok (.iaload, 1) := by decide +kernel
theorem dL_isLike_84 : decode cL_isLike 84 = .ok (.if_icmp .eq 5, 3) := by decide +kernel
theorem dL_isLike_87 : decode cL_isLike 87 = .ok (.iconst 0, 1) := by decide +kernel
theorem dL_isLike_88 : decode cL_isLike 88 = .ok (.ireturn, 1) := by decide +kernel
theorem dL_isLike_89 : decode cL_isLike 89 = .ok (.iinc 2 1, 3) := by decide +kernel
theorem dL_isLike_92 : decode cL_isLike 92 = .ok (.goto (-25), 3) := by decide +kernel
theorem dL_isLike_95 : decode cL_isLike 95 = .ok (.aload_n 1, 1) := by decide +kernel
theorem dL_isLike_96 : decode cL_isLike 96 = .ok (.getfield 154, 3) := by decide +kernel
theorem dL_isLike_99 : decode cL_isLike 99 = .ok (.astore_n 2, 1) := by decide +kernel
theorem dL_isLike_100 : decode cL_isLike 100 = .ok (.aload_n 2, 1) := by decide +kernel
theorem dL_isLike_101 : decode cL_isLike 101 = .ok (.arraylength, 1) := by decide +kernel
theorem dL_isLike_102 : decode cL_isLike 102 = .ok (.istore_n 3, 1) := by decide +kernel
theorem dL_isLike_103 : decode cL_isLike 103 = .ok (.iconst 0, 1) := by decide +kernel
theorem dL_isLike_104 : decode cL_isLike 104 = .ok (.istore 4, 2) := by decide +kernel
theorem dL_isLike_106 : decode cL_isLike 106 = .ok (.iload 4, 2) := by decide +kernel
theorem dL_isLike_108 : decode cL_isLike 108 = .ok (.iload_n 3, 1) := by decide +kernel
theorem dL_isLike_109 : decode cL_isLike 109 = .ok (.if_icmp .ge 140, 3) := by decide +kernel
theorem dL_isLike_112 : decode cL_isLike 112 = .ok (.aload_n 2, 1) := by decide +kernel
theorem dL_isLike_113 : decode cL_isLike 113 = .ok (.iload 4, 2) := by decide +kernel
theorem dL_isLike_115 : decode cL_isLike 115 = .ok (.aaload, 1) := by decide +kernel
theorem dL_isLike_116 : decode cL_isLike 116 = .ok (.astore 5, 2) := by decide +kernel
theorem dL_isLike_118 : decode cL_isLike 118 = .ok (.aload 5, 2) := by decide +kernel
theorem dL_isLike_120 : decode cL_isLike 120 = .ok (.getfield 175, 3) := by decide +kernel
theorem dL_isLike_123 : decode cL_isLike 123 = .ok (.istore 6, 2) := by decide +kernel
theorem dL_isLike_125 : decode cL_isLike 125 = .ok (.aload_n 0, 1) := by decide +kernel
theorem dL_isLike_126 : decode cL_isLike 126 = .ok (.iload 6, 2) := by decide +kernel
theorem dL_isLike_128 : decode cL_isLike 128 = .ok (.invokevirtual 180, 3) := by decide +kernel
theorem dL_isLike_131 : decode cL_isLike 131 = .ok (.aload 5, 2) := by decide +kernel
theorem dL_isLike_133 : decode cL_isLike 133 = .ok (.getfield 183, 3) := by decide +kernel
theorem dL_isLike_136 : decode cL_isLike 136 = .ok (.if_icmp .ne 105, 3) := by decide +kernel
theorem dL_isLike_139 : decode cL_isLike 139 = .ok (.aload_n 0, 1) := by decide +kernel
theorem dL_isLike_140 : decode cL_isLike 140 = .ok (.iload 6, 2) := by decide +kernel
theorem dL_isLike_142 : decode cL_isLike 142 = .ok (.invokevirtual 36, 3) := by decide +kernel
theorem dL_isLike_145 : decode cL_isLike 145 = .ok (.aload 5, 2) := by decide +kernel
theorem dL_isLike_147 : decode cL_isLike 147 = .ok (.invokevirtual 185, 3) := by decide +kernel
theorem dL_isLike_150 : decode cL_isLike 150 = .ok (.if_icmp .ne 91, 3) := by decide +kernel
theorem dL_isLike_153 : decode cL_isLike 153 = .ok (.aload_n 0, 1) := by decide +kernel
theorem dL_isLike_154 : decode cL_isLike 154 = .ok (.iload 6, 2) := by decide +kernel
theorem dL_isLike_156 : decode cL_isLike 156 = .ok (.invokevirtual 187, 3) := by decide +kernel
theorem dL_isLike_159 : decode cL_isLike 159 = .ok (.aload 5, 2) := by decide +kernel
theorem dL_isLike_161 : decode cL_isLike 161 = .ok (.getfield 190, 3) := by decide +kernel
theorem dL_isLike_164 : decode cL_isLike 164 = .ok (.ifnonnull 7, 3) := by decide +kernel
theorem dL_isLike_167 : decode cL_isLike 167 = .ok (.iconst (-1), 1) := by decide +kernel
theorem dL_isLike_168 : decode cL_isLike 168 = .ok (.goto 11, 3) := by decide +kernel
theorem dL_isLike_171 : decode cL_isLike 171 = .ok (.aload 5, 2) := by decide +kernel
theorem dL_isLike_173 : decode cL_isLike 173 = .ok (.getfield 190, 3) := by decide +kernel
theorem dL_isLike_176 : decode cL_isLike 176 = .ok (.getfield 175, 3) := by decide +kernel
theorem dL_isLike_179 : decode cL_isLike 179 = .ok (.if_icmp .ne 62, 3) := by decide +kernel
theorem dL_isLike_182 : decode cL_isLike 182 = .ok (.aload_n 0, 1) := by decide +kernel
theorem dL_isLike_183 : decode cL_isLike 183 = .ok (.iload 6, 2) := by decide +kernel
theorem dL_isLike_185 : decode cL_isLike 185 = .ok (.invokevirtual 193, 3) := by decide +kernel
theorem dL_isLike_188 : decode cL_isLike 188 = .ok (.aload 5, 2) := by decide +kernel
theorem dL_isLike_190 : decode cL_isLike 190 = .ok (.getfield 196, 3) := by decide +kernel
theorem dL_isLike_193 : decode cL_isLike 193 = .ok (.if_icmp .ne 48, 3) := by decide +kernel
theorem dL_isLike_196 : decode cL_isLike 196 = .ok (.aload_n 0, 1) := by decide +kernel
theorem dL_isLike_197 : decode cL_isLike 197 = .ok (.iload 6, 2) := by decide +kernel
theorem dL_isLike_199 : decode cL_isLike 199 = .ok (.invokevirtual 198, 3) := by decide +kernel
theorem dL_isLike_202 : decode cL_isLike 202 = .ok (.aload 5, 2) := by decide +kernel
theorem dL_isLike_204 : decode cL_isLike 204 = .ok (.getfield 202, 3) := by decide +kernel
theorem dL_isLike_207 : decode cL_isLike 207 = .ok (.if_icmp .ne 34, 3) := by decide +kernel
theorem dL_isLike_210 : decode cL_isLike 210 = .ok (.aload_n 0, 1) := by decide +kernel
theorem dL_isLike_211 : decode cL_isLike 211 = .ok (.iload 6, 2) := by decide +kernel
theorem dL_isLike_213 : decode cL_isLike 213 = .ok (.invokevirtual 206, 3) := by decide +kernel
theorem dL_isLike_216 : decode cL_isLike 216 = .ok (.aload 5, 2) := by decide +kernel
theorem dL_isLike_218 : decode cL_isLike 218 = .ok (.invokevirtual 209, 3) := by decide +kernel
theorem dL_isLike_221 : decode cL_isLike 221 = .ok (.if_icmp .ne 20, 3) := by decide +kernel
theorem dL_isLike_224 : decode cL_isLike 224 = .ok (.aload_n 0, 1) := by decide +kernel
theorem dL_isLike_225 : decode cL_isLike 225 = .ok (.iload 6, 2) := by decide +kernel
theorem dL_isLike_227 : decode cL_isLike 227 = .ok (.invokevirtual 211, 3) := by decide +kernel
theorem dL_isLike_230 : decode cL_isLike 230 = .ok (.aload 5, 2) := by decide +kernel
theorem dL_isLike_232 : decode cL_isLike 232 = .ok (.invokevirtual 214, 3) := by decide +kernel
theorem dL_isLike_235 : decode cL_isLike 235 = .ok (.getfield 175, 3) := by decide +kernel
theorem dL_isLike_238 : decode cL_isLike 238 = .ok (.if_icmp .eq 5, 3) := by decide +kernel
theorem dL_isLike_241 : decode cL_isLike 241 = .ok (.iconst 0, 1) := by decide +kernel
theorem dL_isLike_242 : decode cL_isLike 242 = .ok (.ireturn, 1) := by decide +kernel
theorem dL_isLike_243 : decode cL_isLike 243 = .ok (.iinc 4 1, 3) := by decide +kernel
theorem dL_isLike_246 : decode cL_isLike 246 = .ok (.goto (-140), 3) := by decide +kernel
theorem dL_isLike_249 : decode cL_isLike 249 = .ok (.iconst 1, 1) := by decide +kernel
theorem dL_isLike_250 : decode cL_isLike 250 = .ok (.ireturn, 1) := by decide +kernel
theorem dL_act_0 : decode cL_act 0 = .ok (.aload_n 2, 1) := by decide +kernel
theorem dL_act_1 : decode cL_act 1 = .ok (.iconst 0, 1) := by decide +kernel
theorem dL_act_2 : decode cL_act 2 = .ok (.bipush 16, 2) := by decide +kernel
theorem dL_act_4 : decode cL_act 4 = .ok (.invokevirtual 217, 3) := by decide +kernel
theorem dL_act_7 : decode cL_act 7 = .ok (.istore_n 3, 1) := by decide +kernel
theorem dL_act_8 : decode cL_act 8 = .ok (.aload_n 1, 1) := by decide +kernel
theorem dL_act_9 : decode cL_act 9 = .ok (.getfield 154, 3) := by decide +kernel
theorem dL_act_12 : decode cL_act 12 = .ok (.arraylength, 1) := by decide +kernel
theorem dL_act_13 : decode cL_act 13 = .ok (.istore 4, 2) := by decide +kernel
theorem dL_act_15 : decode cL_act 15 = .ok (.aload_n 2, 1) := by decide +kernel
theorem dL_act_16 : decode cL_act 16 = .ok (.iconst 0, 1) := by decide +kernel
theorem dL_act_17 : decode cL_act 17 = .ok (.iload 4, 2) := by decide +kernel
theorem dL_act_19 : decode cL_act 19 = .ok (.iconst 1, 1) := by decide +kernel
theorem dL_act_20 : decode cL_act 20 = .ok (.isub, 1) := by decide +kernel
theorem dL_act_21 : decode cL_act 21 = .ok (.invokevirtual 217, 3) := by decide +kernel
theorem dL_act_24 : decode cL_act 24 = .ok (.istore 5, 2) := by decide +kernel
theorem dL_act_26 : decode cL_act 26 = .ok (.aload_n 2, 1) := by decide +kernel
theorem dL_act_27 : decode cL_act 27 = .ok (.iconst 0, 1) := by decide +kernel
theorem dL_act_28 : decode cL_act 28 = .ok (.sipush 255, 3) := by decide +kernel
theorem dL_act_31 : decode cL_act 31 = .ok (.invokevirtual 217, 3) := by decide +kernel
theorem dL_act_34 : decode cL_act 34 = .ok (.istore 6, 2) := by decide +kernel
theorem dL_act_36 : decode cL_act 36 = .ok (.aload_n 1, 1) := by decide +kernel
theorem dL_act_37 : decode cL_act 37 = .ok (.getfield 154, 3) := by decide +kernel
theorem dL_act_40 : decode cL_act 40 = .ok (.iload 5, 2) := by decide +kernel
theorem dL_act_42 : decode cL_act 42 = .ok (.aaload, 1) := by decide +kernel
theorem dL_act_43 : decode cL_act 43 = .ok (.astore 7, 2) := by decide +kernel
theorem dL_act_45 : decode cL_act 45 = .ok (.iload_n 3, 1) := by decide +kernel
theorem dL_act_46 : decode cL_act 46 = .ok (.bipush 14, 2) := by decide +kernel
theorem dL_act_48 : decode cL_act 48 = .ok (.if_icmp .le 12, 3) := by decide +kernel
theorem dL_act_51 : decode cL_act 51 = .ok (.aload_n 0, 1) := by decide +kernel
theorem dL_act_52 : decode cL_act 52 = .ok (.aload_n 1, 1) := by decide +kernel
theorem dL_act_53 : decode cL_act 53 = .ok (.aload_n 2, 1) := by decide +kernel
theorem dL_act_54 : decode cL_act 54 = .ok (.iload 5, 2) := by decide +kernel
theorem dL_act_56 : decode cL_act 56 = .ok (.invokestatic 222, 3) := by decide +kernel
theorem dL_act_59 : decode cL_act 59 = .ok (.ireturn, 1) := by decide +kernel
theorem dL_act_60 : decode cL_act 60 = .ok (.iload_n 3, 1) := by decide +kernel
theorem dL_act_61 : decode cL_act 61 = .ok (.bipush 14, 2) := by decide +kernel
theorem dL_act_63 : decode cL_act 63 = .ok (.if_icmp .ne 67, 3) := by decide +kernel
theorem dL_act_66 : decode cL_act 66 = .ok (.aload 7, 2) := by decide +kernel
theorem dL_act_68 : decode cL_act 68 = .ok (.getfield 190, 3) := by decide +kernel
theorem dL_act_71 : decode cL_act 71 = .ok (.ifnonnull 23, 3) := by decide +kernel
theorem dL_act_74 : decode cL_act 74 = .ok (.aload_n 0, 1) := by decide +kernel
theorem dL_act_75 : decode cL_act 75 = .ok (.bipush 30, 2) := by decide +kernel
theorem dL_act_77 : decode cL_act 77 = .ok (.iload 5, 2) := by decide +kernel
theorem dL_act_79 : decode cL_act 79 = .ok (.iconst 0, 1) := by decide +kernel
theorem dL_act_80 : decode cL_act 80 = .ok (.iconst 0, 1) := by decide +kernel
theorem dL_act_81 : decode cL_act 81 = .ok (.invokestatic 226, 3) := by decide +kernel
theorem dL_act_84 : decode cL_act 84 = .ok (.iconst 3, 1) := by decide +kernel
theorem dL_act_85 : decode cL_act 85 = .ok (.if_icmp .ne 7, 3) := by decide +kernel
theorem dL_act_88 : decode cL_act 88 = .ok (.iconst 1, 1) := by decide +kernel
theorem dL_act_89 : decode cL_act 89 = .ok (.goto 4, 3) := by decide +kernel
theorem dL_act_92 : decode cL_act 92 = .ok (.iconst 0, 1) := by decide +kernel
theorem dL_act_93 : decode cL_act 93 = .ok (.ireturn, 1) := by decide +kernel
theorem dL_act_94 : decode cL_act 94 = .ok (.aload 7, 2) := by decide +kernel
theorem dL_act_96 : decode cL_act 96 = .ok (.invokevirtual 209, 3) := by decide +kernel
theorem dL_act_99 : decode cL_act 99 = .ok (.iconst 1, 1) := by decide +kernel
theorem dL_act_100 : decode cL_act 100 = .ok (.isub, 1) := by decide +kernel
theorem dL_act_101 : decode cL_act 101 = .ok (.istore 8, 2) := by decide +kernel
theorem dL_act_103 : decode cL_act 103 = .ok (.aload 7, 2) := by decide +kernel
theorem dL_act_105 : decode cL_act 105 = .ok (.aload 7, 2) := by decide +kernel
theorem dL_act_107 : decode cL_act 107 = .ok (.invokevirtual 214, 3) := by decide +kernel
theorem dL_act_110 : decode cL_act 110 = .ok (.putfield 190, 3) := by decide +kernel
theorem dL_act_113 : decode cL_act 113 = .ok (.aload_n 0, 1) := by decide +kernel
theorem dL_act_114 : decode cL_act 114 = .ok (.iload 5, 2) := by decide +kernel
theorem dL_act_116 : decode cL_act 116 = .ok (.invokevirtual 121, 3) := by decide +kernel
theorem dL_act_119 : decode cL_act 119 = .ok (.iload 8, 2) := by decide +kernel
theorem dL_act_121 : decode cL_act 121 = .ok (.if_icmp .ne 7, 3) := by decide +kernel
theorem dL_act_124 : decode cL_act 124 = .ok (.iconst 1, 1) := by decide +kernel
theorem dL_act_125 : decode cL_act 125 = .ok (.goto 4, 3) := by decide +kernel
theorem dL_act_128 : decode cL_act 128 = .ok (.iconst 0, 1) := by decide +kernel
theorem dL_act_129 : decode cL_act 129 = .ok (.ireturn, 1) := by decide +kernel
theorem dL_act_130 : decode cL_act 130 = .ok (.iload_n 3, 1) := by decide +kernel
theorem dL_act_131 : decode cL_act 131 = .ok (.iconst 5, 1) := by decide +kernel
theorem dL_act_132 : decode cL_act 132 = .ok (.if_icmp .ge 109, 3) := by decide +kernel
theorem dL_act_135 : decode cL_act 135 = .ok (.aload_n 2, 1) := by decide +kernel
theorem dL_act_136 : decode cL_act 136 = .ok (.iconst 0, 1) := by decide +kernel
theorem dL_act_137 : decode cL_act 137 = .ok (.iload 4, 2) := by decide +kernel
theorem dL_act_139 : decode cL_act 139 = .ok (.iconst 1, 1) := by decide +kernel
theorem dL_act_140 : decode cL_act 140 = .ok (.isub, 1) := by decide +kernel
theorem dL_act_141 : decode cL_act 141 = .ok (.invokevirtual 217, 3) := by decide +kernel
theorem dL_act_144 : decode cL_act 144 = .ok (.istore 8, 2) := by decide +kernel
theorem dL_act_146 : decode cL_act 146 = .ok (.aload_n 2, 1) := by decide +kernel
theorem dL_act_147 : decode cL_act 147 = .ok (.iconst 1, 1) := by decide +kernel
theorem dL_act_148 : decode cL_act 148 = .ok (.iload 4, 2) := by decide +kernel
theorem dL_act_150 : decode cL_act 150 = .ok (.invokevirtual 217, 3) := by decide +kernel
theorem dL_act_153 : decode cL_act 153 = .ok (.istore 9, 2) := by decide +kernel
theorem dL_act_155 : decode cL_act 155 = .ok (.aload_n 1, 1) := by decide +kernel
theorem dL_act_156 : decode cL_act 156 = .ok (.iload 5, 2) := by decide +kernel
theorem dL_act_158 : decode cL_act 158 = .ok (.iload 8, 2) := by decide +kernel
theorem dL_act_160 : decode cL_act 160 = .ok (.iload 9, 2) := by decide +kernel
theorem dL_act_162 : decode cL_act 162 = .ok (.invokevirtual 230, 3) := by decide +kernel
theorem dL_act_165 : decode cL_act 165 = .ok (.ifCond .eq 41, 3) := by decide +kernel
theorem dL_act_168 : decode cL_act 168 = .ok (.aload_n 0, 1) := by decide +kernel
theorem dL_act_169 : decode cL_act 169 = .ok (.bipush 15, 2) := by decide +kernel
theorem dL_act_171 : decode cL_act 171 = .ok (.iload 5, 2) := by decide +kernel
theorem dL_act_173 : decode cL_act 173 = .ok (.iload 8, 2) := by decide +kernel
theorem dL_act_175 : decode cL_act 175 = .ok (.iload 9, 2) := by decide +kernel
theorem dL_act_177 : decode cL_act 177 = .ok (.invokestatic 226, 3) := by decide +kernel
theorem dL_act_180 : decode cL_act 180 = .ok (.iconst 3, 1) := by decide +kernel
theorem dL_act_181 : decode cL_act 181 = .ok (.if_icmp .ne 23, 3) := by decide +kernel
theorem dL_act_184 : decode cL_act 184 = .ok (.aload_n 0, 1) := by decide +kernel
theorem dL_act_185 : decode cL_act 185 = .ok (.bipush 27, 2) := by decide +kernel
theorem dL_act_187 : decode cL_act 187 = .ok (.iload 5, 2) := by decide +kernel
theorem dL_act_189 : decode cL_act 189 = .ok (.iload 8, 2) := by decide +kernel
theorem dL_act_191 : decode cL_act 191 = .ok (.iload 9, 2) := by decide +kernel
theorem dL_act_193 : decode cL_act 193 = .ok (.invokestatic 226, 3) := by decide +kernel
theorem dL_act_196 : decode cL_act 196 = .ok (.iconst 3, 1) := by decide +kernel
theorem dL_act_197 : decode cL_act 197 = .ok (.if_icmp .ne 7, 3) := by decide +kernel
theorem dL_act_200 : decode cL_act 200 = .ok (.iconst 1, 1) := by decide +kernel
theorem dL_act_201 : decode cL_act 201 = .ok (.goto 4, 3) := by decide +kernel
theorem dL_act_204 : decode cL_act 204 = .ok (.iconst 0, 1) := by decide +kernel
theorem dL_act_205 : decode cL_act 205 = .ok (.ireturn, 1) := by decide +kernel
theorem dL_act_206 : decode cL_act 206 = .ok (.aload_n 1, 1) := by decide +kernel
theorem dL_act_207 : decode cL_act 207 = .ok (.iload 5, 2) := by decide +kernel
theorem dL_act_209 : decode cL_act 209 = .ok (.iload 8, 2) := by decide +kernel
theorem dL_act_211 : decode cL_act 211 = .ok (.iload 9, 2) := by decide +kernel
theorem dL_act_213 : decode cL_act 213 = .ok (.invokevirtual 233, 3) := by decide +kernel
theorem dL_act_216 : decode cL_act 216 = .ok (.aload_n 0, 1) := by decide +kernel
theorem dL_act_217 : decode cL_act 217 = .ok (.iload 5, 2) := by decide +kernel
theorem dL_act_219 : decode cL_act 219 = .ok (.iload 8, 2) := by decide +kernel
theorem dL_act_221 : decode cL_act 221 = .ok (.iload 9, 2) := by decide +kernel
theorem dL_act_223 : decode cL_act 223 = .ok (.invokevirtual 82, 3) := by decide +kernel
theorem dL_act_226 : decode cL_act 226 = .ok (.aload_n 1, 1) := by decide +kernel
theorem dL_act_227 : decode cL_act 227 = .ok (.getfield 236, 3) := by decide +kernel
theorem dL_act_230 : decode cL_act 230 = .ok (.iconst 1, 1) := by decide +kernel
theorem dL_act_231 : decode cL_act 231 = .ok (.isub, 1) := by decide +kernel
theorem dL_act_232 : decode cL_act 232 = .ok (.if_icmp .ne 7, 3) := by decide +kernel
theorem dL_act_235 : decode cL_act 235 = .ok (.iconst 1, 1) := by decide +kernel
theorem dL_act_236 : decode cL_act 236 = .ok (.goto 4, 3) := by decide +kernel
theorem dL_act_239 : decode cL_act 239 = .ok (.iconst 0, 1) := by decide +kernel
theorem dL_act_240 : decode cL_act 240 = .ok (.ireturn, 1) := by decide +kernel
theorem dL_act_241 : decode cL_act 241 = .ok (.iload_n 3, 1) := by decide +kernel
theorem dL_act_242 : decode cL_act 242 = .ok (.iconst 5, 1) := by decide +kernel
theorem dL_act_243 : decode cL_act 243 = .ok (.if_icmp .ne 73, 3) := by decide +kernel
theorem dL_act_246 : decode cL_act 246 = .ok (.aload 7, 2) := by decide +kernel
theorem dL_act_248 : decode cL_act 248 = .ok (.getfield 202, 3) := by decide +kernel
theorem dL_act_251 : decode cL_act 251 = .ok (.ifCond .eq 38, 3) := by decide +kernel
theorem dL_act_254 : decode cL_act 254 = .ok (.aload_n 0, 1) := by decide +kernel
theorem dL_act_255 : decode cL_act 255 = .ok (.bipush 16, 2) := by decide +kernel
theorem dL_act_257 : decode cL_act 257 = .ok (.iload 5, 2) := by decide +kernel
theorem dL_act_259 : decode cL_act 259 = .ok (.iload 6, 2) := by decide +kernel
theorem dL_act_261 : decode cL_act 261 = .ok (.iconst 0, 1) := by decide +kernel
theorem dL_act_262 : decode cL_act 262 = .ok (.invokestatic 226, 3) := by decide +kernel
theorem dL_act_265 : decode cL_act 265 = .ok (.iconst 3, 1) := by decide +kernel
theorem dL_act_266 : decode cL_act 266 = .ok (.if_icmp .ne 21, 3) := by decide +kernel
theorem dL_act_269 : decode cL_act 269 = .ok (.aload_n 0, 1) := by decide +kernel
theorem dL_act_270 : decode cL_act 270 = .ok (.bipush 8, 2) := by decide +kernel
theorem dL_act_272 : decode cL_act 272 = .ok (.iload 5, 2) := by decide +kernel
theorem dL_act_274 : decode cL_act 274 = .ok (.iconst 0, 1) := by decide +kernel
theorem dL_act_275 : decode cL_act 275 = .ok (.iconst 0, 1) := by decide +kernel
theorem dL_act_276 : decode cL_act 276 = .ok (.invokestatic 226, 3) := by decide +kernel
theorem dL_act_279 : decode cL_act 279 = .ok (.iconst 3, 1) := by decide +kernel
theorem dL_act_280 : decode cL_act 280 = .ok (.if_icmp .ne 7, 3) := by decide +kernel
theorem dL_act_283 : decode cL_act 283 = .ok (.iconst 1, 1) := by decide +kernel
theorem dL_act_284 : decode cL_act 284 = .ok (.goto 4, 3) := by decide +kernel
theorem dL_act_287 : decode cL_act 287 = .ok (.iconst 0, 1) := by decide +kernel
theorem dL_act_288 : decode cL_act 288 = .ok (.ireturn, 1) := by decide +kernel
theorem dL_act_289 : decode cL_act 289 = .ok (.aload_n 0, 1) := by decide +kernel
theorem dL_act_290 : decode cL_act 290 = .ok (.iload 5, 2) := by decide +kernel
theorem dL_act_292 : decode cL_act 292 = .ok (.iload 6, 2) := by decide +kernel
theorem dL_act_294 : decode cL_act 294 = .ok (.invokevirtual 85, 3) := by decide +kernel
theorem dL_act_297 : decode cL_act 297 = .ok (.aload_n 1, 1) := by decide +kernel
theorem dL_act_298 : decode cL_act 298 = .ok (.iload 5, 2) := by decide +kernel
theorem dL_act_300 : decode cL_act 300 = .ok (.iload 5, 2) := by decide +kernel
theorem dL_act_302 : decode cL_act 302 = .ok (.iload 6, 2) := by decide +kernel
theorem dL_act_304 : decode cL_act 304 = .ok (.invokevirtual 239, 3) := by decide +kernel
theorem dL_act_307 : decode cL_act 307 = .ok (.if_icmp .ne 7, 3) := by decide +kernel
theorem dL_act_310 : decode cL_act 310 = .ok (.iconst 1, 1) := by decide +kernel
theorem dL_act_311 : decode cL_act 311 = .ok (.goto 4, 3) := by decide +kernel
theorem dL_act_314 : decode cL_act 314 = .ok (.iconst 0, 1) := by decide +kernel
theorem dL_act_315 : decode cL_act 315 = .ok (.ireturn, 1) := by decide +kernel
theorem dL_act_316 : decode cL_act 316 = .ok (.iload_n 3, 1) := by decide +kernel
theorem dL_act_317 : decode cL_act 317 = .ok (.bipush 8, 2) := by decide +kernel
theorem dL_act_319 : decode cL_act 319 = .ok (.if_icmp .ge 28, 3) := by decide +kernel
theorem dL_act_322 : decode cL_act 322 = .ok (.aload_n 0, 1) := by decide +kernel
theorem dL_act_323 : decode cL_act 323 = .ok (.aload_n 1, 1) := by decide +kernel
theorem dL_act_324 : decode cL_act 324 = .ok (.iload 5, 2) := by decide +kernel
theorem dL_act_326 : decode cL_act 326 = .ok (.iload 4, 2) := by decide +kernel
theorem dL_act_328 : decode cL_act 328 = .ok (.iconst 1, 1) := by decide +kernel
theorem dL_act_329 : decode cL_act 329 = .ok (.isub, 1) := by decide +kernel
theorem dL_act_330 : decode cL_act 330 = .ok (.iload 5, 2) := by decide +kernel
theorem dL_act_332 : decode cL_act 332 = .ok (.iload 6, 2) := by decide +kernel
theorem dL_act_334 : decode cL_act 334 = .ok (.iconst 4, 1) := by decide +kernel
