/-! decode rows -/
theorem dX7_init_0 : decode cX7_init 0 = .ok (.aload_n 0, 1) := by decide +kernel
theorem dX7_init_1 : decode cX7_init 1 = .ok (.invokespecial 1, 3) := by decide +kernel
theorem dX7_init_4 : decode cX7_init 4 = .ok (.aload_n 0, 1) := by decide +kernel
theorem dX7_init_5 : decode cX7_init 5 = .ok (.iconst 5, 1) := by decide +kernel
theorem dX7_init_6 : decode cX7_init 6 = .ok (.putfield 7, 3) := by decide +kernel
theorem dX7_init_9 : decode cX7_init 9 = .ok (.aload_n 0, 1) := by decide +kernel
theorem dX7_init_10 : decode cX7_init 10 = .ok (.sipush 999, 3) := by decide +kernel
theorem dX7_init_13 : decode cX7_init 13 = .ok (.putfield 13, 3) := by decide +kernel
theorem dX7_init_16 : decode cX7_init 16 = .ok (.aload_n 0, 1) := by decide +kernel
theorem dX7_init_17 : decode cX7_init 17 = .ok (.iconst 1, 1) := by decide +kernel
theorem dX7_init_18 : decode cX7_init 18 = .ok (.putfield 16, 3) := by decide +kernel
theorem dX7_init_21 : decode cX7_init 21 = .ok (.aload_n 0, 1) := by decide +kernel
theorem dX7_init_22 : decode cX7_init 22 = .ok (.iconst (-1), 1) := by decide +kernel
theorem dX7_init_23 : decode cX7_init 23 = .ok (.putfield 19, 3) := by decide +kernel
theorem dX7_init_26 : decode cX7_init 26 = .ok (.aload_n 0, 1) := by decide +kernel
theorem dX7_init_27 : decode cX7_init 27 = .ok (.bipush 8, 2) := by decide +kernel
theorem dX7_init_29 : decode cX7_init 29 = .ok (.newarray .int, 2) := by decide +kernel
theorem dX7_init_31 : decode cX7_init 31 = .ok (.putfield 22, 3) := by decide +kernel
theorem dX7_init_34 : decode cX7_init 34 = .ok (.aload_n 0, 1) := by decide +kernel
theorem dX7_init_35 : decode cX7_init 35 = .ok (.bipush 6, 2) := by decide +kernel
theorem dX7_init_37 : decode cX7_init 37 = .ok (.newarray .int, 2) := by decide +kernel
theorem dX7_init_39 : decode cX7_init 39 = .ok (.putfield 26, 3) := by decide +kernel
theorem dX7_init_42 : decode cX7_init 42 = .ok (.aload_n 0, 1) := by decide +kernel
theorem dX7_init_43 : decode cX7_init 43 = .ok (.bipush 6, 2) := by decide +kernel
theorem dX7_init_45 : decode cX7_init 45 = .ok (.newarray .int, 2) := by decide +kernel
theorem dX7_init_47 : decode cX7_init 47 = .ok (.putfield 29, 3) := by decide +kernel
theorem dX7_init_50 : decode cX7_init 50 = .ok (.aload_n 0, 1) := by decide +kernel
theorem dX7_init_51 : decode cX7_init 51 = .ok (.bipush 6, 2) := by decide +kernel
theorem dX7_init_53 : decode cX7_init 53 = .ok (.newarray .int, 2) := by decide +kernel
theorem dX7_init_55 : decode cX7_init 55 = .ok (.putfield 32, 3) := by decide +kernel
theorem dX7_init_58 : decode cX7_init 58 = .ok (.aload_n 0, 1) := by decide +kernel
theorem dX7_init_59 : decode cX7_init 59 = .ok (.bipush 6, 2) := by decide +kernel
theorem dX7_init_61 : decode cX7_init 61 = .ok (.newarray .int, 2) := by decide +kernel
theorem dX7_init_63 : decode cX7_init 63 = .ok (.putfield 35, 3) := by decide +kernel
theorem dX7_init_66 : decode cX7_init 66 = .ok (.aload_n 0, 1) := by decide +kernel
theorem dX7_init_67 : decode cX7_init 67 = .ok (.bipush 6, 2) := by decide +kernel
theorem dX7_init_69 : decode cX7_init 69 = .ok (.newarray .int, 2) := by decide +kernel
theorem dX7_init_71 : decode cX7_init 71 = .ok (.putfield 38, 3) := by decide +kernel
theorem dX7_init_74 : decode cX7_init 74 = .ok (.aload_n 0, 1) := by decide +kernel
theorem dX7_init_75 : decode cX7_init 75 = .ok (.bipush 6, 2) := by decide +kernel
theorem dX7_init_77 : decode cX7_init 77 = .ok (.newarray .int, 2) := by decide +kernel
theorem dX7_init_79 : decode cX7_init 79 = .ok (.putfield 41, 3) := by decide +kernel
theorem dX7_init_82 : decode cX7_init 82 = .ok (.aload_n 0, 1) := by decide +kernel
theorem dX7_init_83 : decode cX7_init 83 = .ok (.bipush 6, 2) := by decide +kernel
theorem dX7_init_85 : decode cX7_init 85 = .ok (.newarray .int, 2) := by decide +kernel
theorem dX7_init_87 : decode cX7_init 87 = .ok (.putfield 44, 3) := by decide +kernel
theorem dX7_init_90 : decode cX7_init 90 = .ok (.aload_n 0, 1) := by decide +kernel
theorem dX7_init_91 : decode cX7_init 91 = .ok (.bipush 6, 2) := by decide +kernel
theorem dX7_init_93 : decode cX7_init 93 = .ok (.newarray .int, 2) := by decide +kernel
theorem dX7_init_95 : decode cX7_init 95 = .ok (.putfield 47, 3) := by decide +kernel
theorem dX7_init_98 : decode cX7_init 98 = .ok (.aload_n 0, 1) := by decide +kernel
theorem dX7_init_99 : decode cX7_init 99 = .ok (.bipush 6, 2) := by decide +kernel
theorem dX7_init_101 : decode cX7_init 101 = .ok (.newarray .int, 2) := by decide +kernel
theorem dX7_init_103 : decode cX7_init 103 = .ok (.putfield 50, 3) := by decide +kernel
theorem dX7_init_106 : decode cX7_init 106 = .ok (.aload_n 0, 1) := by decide +kernel
theorem dX7_init_107 : decode cX7_init 107 = .ok (.bipush 6, 2) := by decide +kernel
theorem dX7_init_109 : decode cX7_init 109 = .ok (.newarray .int, 2) := by decide +kernel
theorem dX7_init_111 : decode cX7_init 111 = .ok (.putfield 53, 3) := by decide +kernel
theorem dX7_init_114 : decode cX7_init 114 = .ok (.aload_n 0, 1) := by decide +kernel
theorem dX7_init_115 : decode cX7_init 115 = .ok (.bipush 6, 2) := by decide +kernel
theorem dX7_init_117 : decode cX7_init 117 = .ok (.newarray .int, 2) := by decide +kernel
theorem dX7_init_119 : decode cX7_init 119 = .ok (.putfield 56, 3) := by decide +kernel
theorem dX7_init_122 : decode cX7_init 122 = .ok (.aload_n 0, 1) := by decide +kernel
theorem dX7_init_123 : decode cX7_init 123 = .ok (.bipush 8, 2) := by decide +kernel
theorem dX7_init_125 : decode cX7_init 125 = .ok (.newarray .int, 2) := by decide +kernel
theorem dX7_init_127 : decode cX7_init 127 = .ok (.putfield 59, 3) := by decide +kernel
theorem dX7_init_130 : decode cX7_init 130 = .ok (.aload_n 0, 1) := by decide +kernel
theorem dX7_init_131 : decode cX7_init 131 = .ok (.bipush 8, 2) := by decide +kernel
theorem dX7_init_133 : decode cX7_init 133 = .ok (.newarray .int, 2) := by decide +kernel
theorem dX7_init_135 : decode cX7_init 135 = .ok (.putfield 62, 3) := by decide +kernel
theorem dX7_init_138 : decode cX7_init 138 = .ok (.aload_n 0, 1) := by decide +kernel
theorem dX7_init_139 : decode cX7_init 139 = .ok (.bipush 8, 2) := by decide +kernel
theorem dX7_init_141 : decode cX7_init 141 = .ok (.newarray .int, 2) := by decide +kernel
theorem dX7_init_143 : decode cX7_init 143 = .ok (.putfield 65, 3) := by decide +kernel
theorem dX7_init_146 : decode cX7_init 146 = .ok (.aload_n 0, 1) := by decide +kernel
theorem dX7_init_147 : decode cX7_init 147 = .ok (.bipush 8, 2) := by decide +kernel
theorem dX7_init_149 : decode cX7_init 149 = .ok (.newarray .int, 2) := by decide +kernel
theorem dX7_init_151 : decode cX7_init 151 = .ok (.putfield 68, 3) := by decide +kernel
theorem dX7_init_154 : decode cX7_init 154 = .ok (.aload_n 0, 1) := by decide +kernel
theorem dX7_init_155 : decode cX7_init 155 = .ok (.sipush 1280, 3) := by decide +kernel
theorem dX7_init_158 : decode cX7_init 158 = .ok (.newarray .long, 2) := by decide +kernel
theorem dX7_init_160 : decode cX7_init 160 = .ok (.putfield 71, 3) := by decide +kernel
theorem dX7_init_163 : decode cX7_init 163 = .ok (.aload_n 0, 1) := by decide +kernel
theorem dX7_init_164 : decode cX7_init 164 = .ok (.sipush 160, 3) := by decide +kernel
theorem dX7_init_167 : decode cX7_init 167 = .ok (.newarray .long, 2) := by decide +kernel
theorem dX7_init_169 : decode cX7_init 169 = .ok (.putfield 75, 3) := by decide +kernel
theorem dX7_init_172 : decode cX7_init 172 = .ok (.aload_n 0, 1) := by decide +kernel
theorem dX7_init_173 : decode cX7_init 173 = .ok (.bipush 51, 2) := by decide +kernel
theorem dX7_init_175 : decode cX7_init 175 = .ok (.newarray .int, 2) := by decide +kernel
theorem dX7_init_177 : decode cX7_init 177 = .ok (.dup, 1) := by decide +kernel
theorem dX7_init_178 : decode cX7_init 178 = .ok (.iconst 0, 1) := by decide +kernel
theorem dX7_init_179 : decode cX7_init 179 = .ok (.bipush 115, 2) := by decide +kernel
theorem dX7_init_181 : decode cX7_init 181 = .ok (.iastore, 1) := by decide +kernel
theorem dX7_init_182 : decode cX7_init 182 = .ok (.dup, 1) := by decide +kernel
theorem dX7_init_183 : decode cX7_init 183 = .ok (.iconst 1, 1) := by decide +kernel
theorem dX7_init_184 : decode cX7_init 184 = .ok (.bipush 104, 2) := by decide +kernel
theorem dX7_init_186 : decode cX7_init 186 = .ok (.iastore, 1) := by decide +kernel
theorem dX7_init_187 : decode cX7_init 187 = .ok (.dup, 1) := by decide +kernel
theorem dX7_init_188 : decode cX7_init 188 = .ok (.iconst 2, 1) := by decide +kernel
theorem dX7_init_189 : decode cX7_init 189 = .ok (.bipush 111, 2) := by decide +kernel
theorem dX7_init_191 : decode cX7_init 191 = .ok (.iastore, 1) := by decide +kernel
theorem dX7_init_192 : decode cX7_init 192 = .ok (.dup, 1) := by decide +kernel
theorem dX7_init_193 : decode cX7_init 193 = .ok (.iconst 3, 1) := by decide +kernel
theorem dX7_init_194 : decode cX7_init 194 = .ok (.bipush 112, 2) := by decide +kernel
theorem dX7_init_196 : decode cX7_init 196 = .ok (.iastore, 1) := by decide +kernel
theorem dX7_init_197 : decode cX7_init 197 = .ok (.dup, 1) := by decide +kernel
theorem dX7_init_198 : decode cX7_init 198 = .ok (.iconst 4, 1) := by decide +kernel
theorem dX7_init_199 : decode cX7_init 199 = .ok (.bipush 32, 2) := by decide +kernel
theorem dX7_init_201 : decode cX7_init 201 = .ok (.iastore, 1) := by decide +kernel
theorem dX7_init_202 : decode cX7_init 202 = .ok (.dup, 1) := by decide +kernel
theorem dX7_init_203 : decode cX7_init 203 = .ok (.iconst 5, 1) := by decide +kernel
theorem dX7_init_204 : decode cX7_init 204 = .ok (.iconst 0, 1) := by decide +kernel
theorem dX7_init_205 : decode cX7_init 205 = .ok (.iastore, 1) := by decide +kernel
theorem dX7_init_206 : decode cX7_init 206 = .ok (.dup, 1) := by decide +kernel
theorem dX7_init_207 : decode cX7_init 207 = .ok (.bipush 6, 2) := by decide +kernel
theorem dX7_init_209 : decode cX7_init 209 = .ok (.bipush 99, 2) := by decide +kernel
theorem dX7_init_211 : decode cX7_init 211 = .ok (.iastore, 1) := by decide +kernel
theorem dX7_init_212 : decode cX7_init 212 = .ok (.dup, 1) := by decide +kernel
theorem dX7_init_213 : decode cX7_init 213 = .ok (.bipush 7, 2) := by decide +kernel
theorem dX7_init_215 : decode cX7_init 215 = .ok (.bipush 104, 2) := by decide +kernel
theorem dX7_init_217 : decode cX7_init 217 = .ok (.iastore, 1) := by decide +kernel
theorem dX7_init_218 : decode cX7_init 218 = .ok (.dup, 1) := by decide +kernel
theorem dX7_init_219 : decode cX7_init 219 = .ok (.bipush 8, 2) := by decide +kernel
theorem dX7_init_221 : decode cX7_init 221 = .ok (.bipush 105, 2) := by decide +kernel
theorem dX7_init_223 : decode cX7_init 223 = .ok (.iastore, 1) := by decide +kernel
theorem dX7_init_224 : decode cX7_init 224 = .ok (.dup, 1) := by decide +kernel
theorem dX7_init_225 : decode cX7_init 225 = .ok (.bipush 9, 2) := by decide +kernel
theorem dX7_init_227 : decode cX7_init 227 = .ok (.bipush 108, 2) := by decide +kernel
theorem dX7_init_229 : decode cX7_init 229 = .ok (.iastore, 1) := by decide +kernel
theorem dX7_init_230 : decode cX7_init 230 = .ok (.dup, 1) := by decide +kernel
theorem dX7_init_231 : decode cX7_init 231 = .ok (.bipush 10, 2) := by decide +kernel
theorem dX7_init_233 : decode cX7_init 233 = .ok (.bipush 100, 2) := by decide +kernel
theorem dX7_init_235 : decode cX7_init 235 = .ok (.iastore, 1) := by decide +kernel
theorem dX7_init_236 : decode cX7_init 236 = .ok (.dup, 1) := by decide +kernel
theorem dX7_init_237 : decode cX7_init 237 = .ok (.bipush 11, 2) := by decide +kernel
theorem dX7_init_239 : decode cX7_init 239 = .ok (.bipush 32, 2) := by decide +kernel
theorem dX7_init_241 : decode cX7_init 241 = .ok (.iastore, 1) := by decide +kernel
theorem dX7_init_242 : decode cX7_init 242 = .ok (.dup, 1) := by decide +kernel
theorem dX7_init_243 : decode cX7_init 243 = .ok (.bipush 12, 2) := by decide +kernel
theorem dX7_init_245 : decode cX7_init 245 = .ok (.iconst 0, 1) := by decide +kernel
theorem dX7_init_246 : decode cX7_init 246 = .ok (.iastore, 1) := by decide +kernel
theorem dX7_init_247 : decode cX7_init 247 = .ok (.dup, 1) := by decide +kernel
theorem dX7_init_248 : decode cX7_init 248 = .ok (.bipush 13, 2) := by decide +kernel
theorem dX7_init_250 : decode cX7_init 250 = .ok (.bipush 102, 2) := by decide +kernel
theorem dX7_init_252 : decode cX7_init 252 = .ok (.iastore, 1) := by decide +kernel
theorem dX7_init_253 : decode cX7_init 253 = .ok (.dup, 1) := by decide +kernel
theorem dX7_init_254 : decode cX7_init 254 = .ok (.bipush 14, 2) := by decide +kernel
theorem dX7_init_256 : decode cX7_init 256 = .ok (.bipush 101, 2) := by decide +kernel
theorem dX7_init_258 : decode cX7_init 258 = .ok (.iastore, 1) := by decide +kernel
theorem dX7_init_259 : decode cX7_init 259 = .ok (.dup, 1) := by decide +kernel
theorem dX7_init_260 : decode cX7_init 260 = .ok (.bipush 15, 2) := by decide +kernel
theorem dX7_init_262 : decode cX7_init 262 = .ok (.bipush 97, 2) := by decide +kernel
theorem dX7_init_264 : decode cX7_init 264 = .ok (.iastore, 1) := by decide +kernel
theorem dX7_init_265 : decode cX7_init 265 = .ok (.dup, 1) := by decide +kernel
theorem dX7_init_266 : decode cX7_init 266 = .ok (.bipush 16, 2) := by decide +kernel
theorem dX7_init_268 : decode cX7_init 268 = .ok (.bipush 116, 2) := by decide +kernel
theorem dX7_init_270 : decode cX7_init 270 = .ok (.iastore, 1) := by decide +kernel
theorem dX7_init_271 : decode cX7_init 271 = .ok (.dup, 1) := by decide +kernel
theorem dX7_init_272 : decode cX7_init 272 = .ok (.bipush 17, 2) := by decide +kernel
theorem dX7_init_274 : decode cX7_init 274 = .ok (.bipush 104, 2) := by decide +kernel
theorem dX7_init_276 : decode cX7_init 276 = .ok (.iastore, 1) := by decide +kernel
theorem dX7_init_277 : decode cX7_init 277 = .ok (.dup, 1) := by decide +kernel
theorem dX7_init_278 : decode cX7_init 278 = .ok (.bipush 18, 2) := by decide +kernel
theorem dX7_init_280 : decode cX7_init 280 = .ok (.bipush 101, 2) := by decide +kernel
theorem dX7_init_282 : decode cX7_init 282 = .ok (.iastore, 1) := by decide +kernel
theorem dX7_init_283 : decode cX7_init 283 = .ok (.dup, 1) := by decide +kernel
theorem dX7_init_284 : decode cX7_init 284 = .ok (.bipush 19, 2) := by decide +kernel
theorem dX7_init_286 : decode cX7_init 286 = .ok (.bipush 114, 2) := by decide +kernel
theorem dX7_init_288 : decode cX7_init 288 = .ok (.iastore, 1) := by decide +kernel
theorem dX7_init_289 : decode cX7_init 289 = .ok (.dup, 1) := by decide +kernel
theorem dX7_init_290 : decode cX7_init 290 = .ok (.bipush 20, 2) := by decide +kernel
theorem dX7_init_292 : decode cX7_init 292 = .ok (.bipush 115, 2) := by decide +kernel
theorem dX7_init_294 : decode cX7_init 294 = .ok (.iastore, 1) := by decide +kernel
theorem dX7_init_295 : decode cX7_init 295 = .ok (.dup, 1) := by decide +kernel
theorem dX7_init_296 : decode cX7_init 296 = .ok (.bipush 21, 2) := by decide +kernel
theorem dX7_init_298 : decode cX7_init 298 = .ok (.bipush 32, 2) := by decide +kernel
theorem dX7_init_300 : decode cX7_init 300 = .ok (.iastore, 1) := by decide +kernel
theorem dX7_init_301 : decode cX7_init 301 = .ok (.dup, 1) := by decide +kernel
theorem dX7_init_302 : decode cX7_init 302 = .ok (.bipush 22, 2) := by decide +kernel
theorem dX7_init_304 : decode cX7_init 304 = .ok (.iconst 0, 1) := by decide +kernel
theorem dX7_init_305 : decode cX7_init 305 = .ok (.iastore, 1) := by decide +kernel
theorem dX7_init_306 : decode cX7_init 306 = .ok (.dup, 1) := by decide +kernel
theorem dX7_init_307 : decode cX7_init 307 = .ok (.bipush 23, 2) := by decide +kernel
theorem dX7_init_309 : decode cX7_init 309 = .ok (.bipush 107, 2) := by decide +kernel
theorem dX7_init_311 : decode cX7_init 311 = .ok (.iastore, 1) := by decide +kernel
theorem dX7_init_312 : decode cX7_init 312 = .ok (.dup, 1) := by decide +kernel
theorem dX7_init_313 : decode cX7_init 313 = .ok (.bipush 24, 2) := by decide +kernel
theorem dX7_init_315 : decode cX7_init 315 = .ok (.bipush 101, 2) := by decide +kernel
theorem dX7_init_317 : decode cX7_init 317 = .ok (.iastore, 1) := by decide +kernel
theorem dX7_init_318 : decode cX7_init 318 = .ok (.dup, 1) := by decide +kernel
theorem dX7_init_319 : decode cX7_init 319 = .ok (.bipush 25, 2) := by decide +kernel
theorem dX7_init_321 : decode cX7_init 321 = .ok (.bipush 101, 2) := by decide +kernel
theorem dX7_init_323 : decode cX7_init 323 = .ok (.iastore, 1) := by decide +kernel
theorem dX7_init_324 : decode cX7_init 324 = .ok (.dup, 1) := by decide +kernel
theorem dX7_init_325 : decode cX7_init 325 = .ok (.bipush 26, 2) := by decide +kernel
theorem dX7_init_327 : decode cX7_init 327 = .ok (.bipush 112, 2) := by decide +kernel
theorem dX7_init_329 : decode cX7_init 329 = .ok (.iastore, 1) := by decide +kernel
theorem dX7_init_330 : decode cX7_init 330 = .ok (.dup, 1) := by decide +kernel
theorem dX7_init_331 : decode cX7_init 331 = .ok (.bipush 27, 2) := by decide +kernel
theorem dX7_init_333 : decode cX7_init 333 = .ok (.bipush 115, 2) := by decide +kernel
theorem dX7_init_335 : decode cX7_init 335 = .ok (.iastore, 1) := by decide +kernel
theorem dX7_init_336 : decode cX7_init 336 = .ok (.dup, 1) := by decide +kernel
theorem dX7_init_337 : decode cX7_init 337 = .ok (.bipush 28, 2) := by decide +kernel
theorem dX7_init_339 : decode cX7_init 339 = .ok (.bipush 32, 2) := by decide +kernel
theorem dX7_init_341 : decode cX7_init 341 = .ok (.iastore, 1) := by decide +kernel
theorem dX7_init_342 : decode cX7_init 342 = .ok (.dup, 1) := by decide +kernel
theorem dX7_init_343 : decode cX7_init 343 = .ok (.bipush 29, 2) := by decide +kernel
theorem dX7_init_345 : decode cX7_init 345 = .ok (.iconst 0, 1) := by decide +kernel
theorem dX7_init_346 : decode cX7_init 346 = .ok (.iastore, 1) := by decide +kernel
theorem dX7_init_347 : decode cX7_init 347 = .ok (.dup, 1) := by decide +kernel
theorem dX7_init_348 : decode cX7_init 348 = .ok (.bipush 30, 2) := by decide +kernel
theorem dX7_init_350 : decode cX7_init 350 = .ok (.bipush 105, 2) := by decide +kernel
theorem dX7_init_352 : decode cX7_init 352 = .ok (.iastore, 1) := by decide +kernel
theorem dX7_init_353 : decode cX7_init 353 = .ok (.dup, 1) := by decide +kernel
theorem dX7_init_354 : decode cX7_init 354 = .ok (.bipush 31, 2) := by decide +kernel
theorem dX7_init_356 : decode cX7_init 356 = .ok (.bipush 110, 2) := by decide +kernel
theorem dX7_init_358 : decode cX7_init 358 = .ok (.iastore, 1) := by decide +kernel
theorem dX7_init_359 : decode cX7_init 359 = .ok (.dup, 1) := by decide +kernel
theorem dX7_init_360 : decode cX7_init 360 = .ok (.bipush 32, 2) := by decide +kernel
theorem dX7_init_362 : decode cX7_init 362 = .ok (.bipush 107, 2) := by decide +kernel
theorem dX7_init_364 : decode cX7_init 364 = .ok (.iastore, 1) := by decide +kernel
theorem dX7_init_365 : decode cX7_init 365 = .ok (.dup, 1) := by decide +kernel
theorem dX7_init_366 : decode cX7_init 366 = .ok (.bipush 33, 2) := by decide +kernel
theorem dX7_init_368 : decode cX7_init 368 = .ok (.bipush 32, 2) := by decide +kernel
theorem dX7_init_370 : decode cX7_init 370 = .ok (.iastore, 1) := by decide +kernel
theorem dX7_init_371 : decode cX7_init 371 = .ok (.dup, 1) := by decide +kernel
theorem dX7_init_372 : decode cX7_init 372 = .ok (.bipush 34, 2) := by decide +kernel
theorem dX7_init_374 : decode cX7_init 374 = .ok (.iconst 0, 1) := by decide +kernel
theorem dX7_init_375 : decode cX7_init 375 = .ok (.iastore, 1) := by decide +kernel
theorem dX7_init_376 : decode cX7_init 376 = .ok (.dup, 1) := by decide +kernel
theorem dX7_init_377 : decode cX7_init 377 = .ok (.bipush 35, 2) := by decide +kernel
theorem dX7_init_379 : decode cX7_init 379 = .ok (.bipush 116, 2) := by decide +kernel
theorem dX7_init_381 : decode cX7_init 381 = .ok (.iastore, 1) := by decide +kernel
theorem dX7_init_382 : decode cX7_init 382 = .ok (.dup, 1) := by decide +kernel
theorem dX7_init_383 : decode cX7_init 383 = .ok (.bipush 36, 2) := by decide +kernel
theorem dX7_init_385 : decode cX7_init 385 = .ok (.bipush 114, 2) := by decide +kernel
theorem dX7_init_387 : decode cX7_init 387 = .ok (.iastore, 1) := by decide +kernel
theorem dX7_init_388 : decode cX7_init 388 = .ok (.dup, 1) := by decide +kernel
theorem dX7_init_389 : decode cX7_init 389 = .ok (.bipush 37, 2) := by decide +kernel
theorem dX7_init_391 : decode cX7_init 391 = .ok (.bipush 101, 2) := by decide +kernel
theorem dX7_init_393 : decode cX7_init 393 = .ok (.iastore, 1) := by decide +kernel
theorem dX7_init_394 : decode cX7_init 394 = .ok (.dup, 1) := by decide +kernel
theorem dX7_init_395 : decode cX7_init 395 = .ok (.bipush 38, 2) := by decide +kernel
theorem dX7_init_397 : decode cX7_init 397 = .ok (.bipush 101, 2) := by decide +kernel
theorem dX7_init_399 : decode cX7_init 399 = .ok (.iastore, 1) := by decide +kernel
theorem dX7_init_400 : decode cX7_init 400 = .ok (.dup, 1) := by decide +kernel
theorem dX7_init_401 : decode cX7_init 401 = .ok (.bipush 39, 2) := by decide +kernel
theorem dX7_init_403 : decode cX7_init 403 = .ok (.bipush 32, 2) := by decide +kernel
theorem dX7_init_405 : decode cX7_init 405 = .ok (.iastore, 1) := by decide +kernel
theorem dX7_init_406 : decode cX7_init 406 = .ok (.dup, 1) := by decide +kernel
theorem dX7_init_407 : decode cX7_init 407 = .ok (.bipush 40, 2) := by decide +kernel
theorem dX7_init_409 : decode cX7_init 409 = .ok (.iconst 0, 1) := by decide +kernel
theorem dX7_init_410 : decode cX7_init 410 = .ok (.iastore, 1) := by decide +kernel
theorem dX7_init_411 : decode cX7_init 411 = .ok (.dup, 1) := by decide +kernel
theorem dX7_init_412 : decode cX7_init 412 = .ok (.bipush 41, 2) := by decide +kernel
theorem dX7_init_414 : decode cX7_init 414 = .ok (.bipush 100, 2) := by decide +kernel
theorem dX7_init_416 : decode cX7_init 416 = .ok (.iastore, 1) := by decide +kernel
theorem dX7_init_417 : decode cX7_init 417 = .ok (.dup, 1) := by decide +kernel
theorem dX7_init_418 : decode cX7_init 418 = .ok (.bipush 42, 2) := by decide +kernel
theorem dX7_init_420 : decode cX7_init 420 = .ok (.bipush 111, 2) := by decide +kernel
theorem dX7_init_422 : decode cX7_init 422 = .ok (.iastore, 1) := by decide +kernel
theorem dX7_init_423 : decode cX7_init 423 = .ok (.dup, 1) := by decide +kernel
theorem dX7_init_424 : decode cX7_init 424 = .ok (.bipush 43, 2) := by decide +kernel
theorem dX7_init_426 : decode cX7_init 426 = .ok (.bipush 32, 2) := by decide +kernel
theorem dX7_init_428 : decode cX7_init 428 = .ok (.iastore, 1) := by decide +kernel
theorem dX7_init_429 : decode cX7_init 429 = .ok (.dup, 1) := by decide +kernel
theorem dX7_init_430 : decode cX7_init 430 = .ok (.bipush 44, 2) := by decide +kernel
theorem dX7_init_432 : decode cX7_init 432 = .ok (.iconst 0, 1) := by decide +kernel
theorem dX7_init_433 : decode cX7_init 433 = .ok (.iastore, 1) := by decide +kernel
theorem dX7_init_434 : decode cX7_init 434 = .ok (.dup, 1) := by decide +kernel
theorem dX7_init_435 : decode cX7_init 435 = .ok (.bipush 45, 2) := by decide +kernel
theorem dX7_init_437 : decode cX7_init 437 = .ok (.bipush 110, 2) := by decide +kernel
theorem dX7_init_439 : decode cX7_init 439 = .ok (.iastore, 1) := by decide +kernel
theorem dX7_init_440 : decode cX7_init 440 = .ok (.dup, 1) := by decide +kernel
theorem dX7_init_441 : decode cX7_init 441 = .ok (.bipush 46, 2) := by decide +kernel
theorem dX7_init_443 : decode cX7_init 443 = .ok (.bipush 105, 2) := by decide +kernel
theorem dX7_init_445 : decode cX7_init 445 = .ok (.iastore, 1) := by decide +kernel
theorem dX7_init_446 : decode cX7_init 446 = .ok (.dup, 1) := by decide +kernel
theorem dX7_init_447 : decode cX7_init 447 = .ok (.bipush 47, 2) := by decide +kernel
theorem dX7_init_449 : decode cX7_init 449 = .ok (.bipush 103, 2) := by decide +kernel
theorem dX7_init_451 : decode cX7_init 451 = .ok (.iastore, 1) := by decide +kernel
theorem dX7_init_452 : decode cX7_init 452 = .ok (.dup, 1) := by decide +kernel
theorem dX7_init_453 : decode cX7_init 453 = .ok (.bipush 48, 2) := by decide +kernel
theorem dX7_init_455 : decode cX7_init 455 = .ok (.bipush 104, 2) := by decide +kernel
theorem dX7_init_457 : decode cX7_init 457 = .ok (.iastore, 1) := by decide +kernel
theorem dX7_init_458 : decode cX7_init 458 = .ok (.dup, 1) := by decide +kernel
theorem dX7_init_459 : decode cX7_init 459 = .ok (.bipush 49, 2) := by decide +kernel
theorem dX7_init_461 : decode cX7_init 461 = .ok (.bipush 116, 2) := by decide +kernel
theorem dX7_init_463 : decode cX7_init 463 = .ok (.iastore, 1) := by decide +kernel
theorem dX7_init_464 : decode cX7_init 464 = .ok (.dup, 1) := by decide +kernel
theorem dX7_init_465 : decode cX7_init 465 = .ok (.bipush 50, 2) := by decide +kernel
theorem dX7_init_467 : decode cX7_init 467 = .ok (.iconst 0, 1) := by decide +kernel
theorem dX7_init_468 : decode cX7_init 468 = .ok (.iastore, 1) := by decide +kernel
theorem dX7_init_469 : decode cX7_init 469 = .ok (.putfield 78, 3) := by decide +kernel
theorem dX7_init_472 : decode cX7_init 472 = .ok (.aload_n 0, 1) := by decide +kernel
theorem dX7_init_473 : decode cX7_init 473 = .ok (.bipush 8, 2) := by decide +kernel
theorem dX7_init_475 : decode cX7_init 475 = .ok (.newarray .int, 2) := by decide +kernel
theorem dX7_init_477 : decode cX7_init 477 = .ok (.dup, 1) := by decide +kernel
theorem dX7_init_478 : decode cX7_init 478 = .ok (.iconst 0, 1) := by decide +kernel
theorem dX7_init_479 : decode cX7_init 479 = .ok (.iconst 3, 1) := by decide +kernel
theorem dX7_init_480 : decode cX7_init 480 = .ok (.iastore, 1) := by decide +kernel
theorem dX7_init_481 : decode cX7_init 481 = .ok (.dup, 1) := by decide +kernel
theorem dX7_init_482 : decode cX7_init 482 = .ok (.iconst 1, 1) := by decide +kernel
theorem dX7_init_483 : decode cX7_init 483 = .ok (.iconst 2, 1) := by decide +kernel
theorem dX7_init_484 : decode cX7_init 484 = .ok (.iastore, 1) := by decide +kernel
theorem dX7_init_485 : decode cX7_init 485 = .ok (.dup, 1) := by decide +kernel
theorem dX7_init_486 : decode cX7_init 486 = .ok (.iconst 2, 1) := by decide +kernel
theorem dX7_init_487 : decode cX7_init 487 = .ok (.iconst 2, 1) := by decide +kernel
theorem dX7_init_488 : decode cX7_init 488 = .ok (.iastore, 1) := by decide +kernel
theorem dX7_init_489 : decode cX7_init 489 = .ok (.dup, 1) := by decide +kernel
theorem dX7_init_490 : decode cX7_init 490 = .ok (.iconst 3, 1) := by decide +kernel
theorem dX7_init_491 : decode cX7_init 491 = .ok (.iconst 2, 1) := by decide +kernel
theorem dX7_init_492 : decode cX7_init 492 = .ok (.iastore, 1) := by decide +kernel
theorem dX7_init_493 : decode cX7_init 493 = .ok (.dup, 1) := by decide +kernel
theorem dX7_init_494 : decode cX7_init 494 = .ok (.iconst 4, 1) := by decide +kernel
theorem dX7_init_495 : decode cX7_init 495 = .ok (.iconst 1, 1) := by decide +kernel
theorem dX7_init_496 : decode cX7_init 496 = .ok (.iastore, 1) := by decide +kernel
theorem dX7_init_497 : decode cX7_init 497 = .ok (.dup, 1) := by decide +kernel
theorem dX7_init_498 : decode cX7_init 498 = .ok (.iconst 5, 1) := by decide +kernel
theorem dX7_init_499 : decode cX7_init 499 = .ok (.iconst 1, 1) := by decide +kernel
theorem dX7_init_500 : decode cX7_init 500 = .ok (.iastore, 1) := by decide +kernel
theorem dX7_init_501 : decode cX7_init 501 = .ok (.dup, 1) := by decide +kernel
theorem dX7_init_502 : decode cX7_init 502 = .ok (.bipush 6, 2) := by decide +kernel
theorem dX7_init_504 : decode cX7_init 504 = .ok (.iconst 2, 1) := by decide +kernel
theorem dX7_init_505 : decode cX7_init 505 = .ok (.iastore, 1) := by decide +kernel
theorem dX7_init_506 : decode cX7_init 506 = .ok (.dup, 1) := by decide +kernel
theorem dX7_init_507 : decode cX7_init 507 = .ok (.bipush 7, 2) := by decide +kernel
theorem dX7_init_509 : decode cX7_init 509 = .ok (.iconst 0, 1) := by decide +kernel
theorem dX7_init_510 : decode cX7_init 510 = .ok (.iastore, 1) := by decide +kernel
theorem dX7_init_511 : decode cX7_init 511 = .ok (.putfield 81, 3) := by decide +kernel
theorem dX7_init_514 : decode cX7_init 514 = .ok (.aload_n 0, 1) := by decide +kernel
theorem dX7_init_515 : decode cX7_init 515 = .ok (.iconst 3, 1) := by decide +kernel
theorem dX7_init_516 : decode cX7_init 516 = .ok (.newarray .int, 2) := by decide +kernel
theorem dX7_init_518 : decode cX7_init 518 = .ok (.putfield 84, 3) := by decide +kernel
theorem dX7_init_521 : decode cX7_init 521 = .ok (.aload_n 0, 1) := by decide +kernel
theorem dX7_init_522 : decode cX7_init 522 = .ok (.bipush 80, 2) := by decide +kernel
theorem dX7_init_524 : decode cX7_init 524 = .ok (.newarray .int, 2) := by decide +kernel
theorem dX7_init_526 : decode cX7_init 526 = .ok (.putfield 87, 3) := by decide +kernel
theorem dX7_init_529 : decode cX7_init 529 = .ok (.aload_n 0, 1) := by decide +kernel
theorem dX7_init_530 : decode cX7_init 530 = .ok (.bipush 80, 2) := by decide +kernel
theorem dX7_init_532 : decode cX7_init 532 = .ok (.newarray .int, 2) := by decide +kernel
theorem dX7_init_534 : decode cX7_init 534 = .ok (.putfield 90, 3) := by decide +kernel
theorem dX7_init_537 : decode cX7_init 537 = .ok (.aload_n 0, 1) := by decide +kernel
theorem dX7_init_538 : decode cX7_init 538 = .ok (.bipush 80, 2) := by decide +kernel
theorem dX7_init_540 : decode cX7_init 540 = .ok (.newarray .int, 2) := by decide +kernel
theorem dX7_init_542 : decode cX7_init 542 = .ok (.putfield 93, 3) := by decide +kernel
theorem dX7_init_545 : decode cX7_init 545 = .ok (.aload_n 0, 1) := by decide +kernel
theorem dX7_init_546 : decode cX7_init 546 = .ok (.bipush 6, 2) := by decide +kernel
theorem dX7_init_548 : decode cX7_init 548 = .ok (.newarray .int, 2) := by decide +kernel
theorem dX7_init_550 : decode cX7_init 550 = .ok (.putfield 96, 3) := by decide +kernel
theorem dX7_init_553 : decode cX7_init 553 = .ok (.aload_n 0, 1) := by decide +kernel
theorem dX7_init_554 : decode cX7_init 554 = .ok (.bipush 6, 2) := by decide +kernel
theorem dX7_init_556 : decode cX7_init 556 = .ok (.newarray .int, 2) := by decide +kernel
theorem dX7_init_558 : decode cX7_init 558 = .ok (.putfield 99, 3) := by decide +kernel
theorem dX7_init_561 : decode cX7_init 561 = .ok (.aload_n 0, 1) := by decide +kernel
theorem dX7_init_562 : decode cX7_init 562 = .ok (.iconst 4, 1) := by decide +kernel
theorem dX7_init_563 : decode cX7_init 563 = .ok (.newarray .int, 2) := by decide +kernel
theorem dX7_init_565 : decode cX7_init 565 = .ok (.putfield 102, 3) := by decide +kernel
theorem dX7_init_568 : decode cX7_init 568 = .ok (.aload_n 0, 1) := by decide +kernel
theorem dX7_init_569 : decode cX7_init 569 = .ok (.iconst 4, 1) := by decide +kernel
theorem dX7_init_570 : decode cX7_init 570 = .ok (.newarray .int, 2) := by decide +kernel
theorem dX7_init_572 : decode cX7_init 572 = .ok (.putfield 105, 3) := by decide +kernel
theorem dX7_init_575 : decode cX7_init 575 = .ok (.aload_n 0, 1) := by decide +kernel
theorem dX7_init_576 : decode cX7_init 576 = .ok (.bipush 6, 2) := by decide +kernel
theorem dX7_init_578 : decode cX7_init 578 = .ok (.newarray .int, 2) := by decide +kernel
theorem dX7_init_580 : decode cX7_init 580 = .ok (.putfield 108, 3) := by decide +kernel
theorem dX7_init_583 : decode cX7_init 583 = .ok (.aload_n 0, 1) := by decide +kernel
theorem dX7_init_584 : decode cX7_init 584 = .ok (.bipush 20, 2) := by decide +kernel
theorem dX7_init_586 : decode cX7_init 586 = .ok (.newarray .int, 2) := by decide +kernel
theorem dX7_init_588 : decode cX7_init 588 = .ok (.putfield 111, 3) := by decide +kernel
theorem dX7_init_591 : decode cX7_init 591 = .ok (.return_, 1) := by decide +kernel
theorem dX7_no_0 : decode cX7_no 0 = .ok (.aload_n 0, 1) := by decide +kernel
theorem dX7_no_1 : decode cX7_no 1 = .ok (.getfield 22, 3) := by decide +kernel
theorem dX7_no_4 : decode cX7_no 4 = .ok (.iload_n 1, 1) := by decide +kernel
theorem dX7_no_5 : decode cX7_no 5 = .ok (.ineg, 1) := by decide +kernel
theorem dX7_no_6 : decode cX7_no 6 = .ok (.dup2, 1) := by decide +kernel
theorem dX7_no_7 : decode cX7_no 7 = .ok (.iaload, 1) := by decide +kernel
theorem dX7_no_8 : decode cX7_no 8 = .ok (.iconst 1, 1) := by decide +kernel
theorem dX7_no_9 : decode cX7_no 9 = .ok (.iadd, 1) := by decide +kernel
theorem dX7_no_10 : decode cX7_no 10 = .ok (.iastore, 1) := by decide +kernel
theorem dX7_no_11 : decode cX7_no 11 = .ok (.iload_n 1, 1) := by decide +kernel
theorem dX7_no_12 : decode cX7_no 12 = .ok (.ireturn, 1) := by decide +kernel
theorem dX7_noTen_0 : decode cX7_noTen 0 = .ok (.aload_n 0, 1) := by decide +kernel
theorem dX7_noTen_1 : decode cX7_noTen 1 = .ok (.getfield 22, 3) := by decide +kernel
theorem dX7_noTen_4 : decode cX7_noTen 4 = .ok (.iload_n 1, 1) := by decide +kernel
theorem dX7_noTen_5 : decode cX7_noTen 5 = .ok (.ineg, 1) := by decide +kernel
theorem dX7_noTen_6 : decode cX7_noTen 6 = .ok (.dup2, 1) := by decide +kernel
theorem dX7_noTen_7 : decode cX7_noTen 7 = .ok (.iaload, 1) := by decide +kernel
theorem dX7_noTen_8 : decode cX7_noTen 8 = .ok (.iconst 1, 1) := by decide +kernel
theorem dX7_noTen_9 : decode cX7_noTen 9 = .ok (.iadd, 1) := by decide +kernel
theorem dX7_noTen_10 : decode cX7_noTen 10 = .ok (.iastore, 1) := by decide +kernel
theorem dX7_noTen_11 : decode cX7_noTen 11 = .ok (.iload_n 1, 1) := by decide +kernel
theorem dX7_noTen_12 : decode cX7_noTen 12 = .ok (.bipush 10, 2) := by decide +kernel
theorem dX7_noTen_14 : decode cX7_noTen 14 = .ok (.isub, 1) := by decide +kernel
theorem dX7_noTen_15 : decode cX7_noTen 15 = .ok (.ireturn, 1) := by decide +kernel
theorem dX7_isShelf_0 : decode cX7_isShelf 0 = .ok (.iload_n 1, 1) := by decide +kernel
theorem dX7_isShelf_1 : decode cX7_isShelf 1 = .ok (.ifCond .lt 13, 3) := by decide +kernel
theorem dX7_isShelf_4 : decode cX7_isShelf 4 = .ok (.iload_n 1, 1) := by decide +kernel
theorem dX7_isShelf_5 : decode cX7_isShelf 5 = .ok (.bipush 8, 2) := by decide +kernel
theorem dX7_isShelf_7 : decode cX7_isShelf 7 = .ok (.if_icmp .ge 7, 3) := by decide +kernel
theorem dX7_isShelf_10 : decode cX7_isShelf 10 = .ok (.iconst 1, 1) := by decide +kernel
theorem dX7_isShelf_11 : decode cX7_isShelf 11 = .ok (.goto 4, 3) := by decide +kernel
theorem dX7_isShelf_14 : decode cX7_isShelf 14 = .ok (.iconst 0, 1) := by decide +kernel
theorem dX7_isShelf_15 : decode cX7_isShelf 15 = .ok (.ireturn, 1) := by decide +kernel
theorem dX7_isShop_0 : decode cX7_isShop 0 = .ok (.iload_n 1, 1) := by decide +kernel
theorem dX7_isShop_1 : decode cX7_isShop 1 = .ok (.ifCond .lt 15, 3) := by decide +kernel
theorem dX7_isShop_4 : decode cX7_isShop 4 = .ok (.iload_n 1, 1) := by decide +kernel
theorem dX7_isShop_5 : decode cX7_isShop 5 = .ok (.aload_n 0, 1) := by decide +kernel
theorem dX7_isShop_6 : decode cX7_isShop 6 = .ok (.getfield 114, 3) := by decide +kernel
theorem dX7_isShop_9 : decode cX7_isShop 9 = .ok (.if_icmp .ge 7, 3) := by decide +kernel
theorem dX7_isShop_12 : decode cX7_isShop 12 = .ok (.iconst 1, 1) := by decide +kernel
theorem dX7_isShop_13 : decode cX7_isShop 13 = .ok (.goto 4, 3) := by decide +kernel
theorem dX7_isShop_16 : decode cX7_isShop 16 = .ok (.iconst 0, 1) := by decide +kernel
theorem dX7_isShop_17 : decode cX7_isShop 17 = .ok (.ireturn, 1) := by decide +kernel
theorem dX7_isChild_0 : decode cX7_isChild 0 = .ok (.iload_n 1, 1) := by decide +kernel
theorem dX7_isChild_1 : decode cX7_isChild 1 = .ok (.ifCond .lt 15, 3) := by decide +kernel
theorem dX7_isChild_4 : decode cX7_isChild 4 = .ok (.iload_n 1, 1) := by decide +kernel
theorem dX7_isChild_5 : decode cX7_isChild 5 = .ok (.aload_n 0, 1) := by decide +kernel
theorem dX7_isChild_6 : decode cX7_isChild 6 = .ok (.getfield 117, 3) := by decide +kernel
theorem dX7_isChild_9 : decode cX7_isChild 9 = .ok (.if_icmp .ge 7, 3) := by decide +kernel
theorem dX7_isChild_12 : decode cX7_isChild 12 = .ok (.iconst 1, 1) := by decide +kernel
theorem dX7_isChild_13 : decode cX7_isChild 13 = .ok (.goto 4, 3) := by decide +kernel
theorem dX7_isChild_16 : decode cX7_isChild 16 = .ok (.iconst 0, 1) := by decide +kernel
theorem dX7_isChild_17 : decode cX7_isChild 17 = .ok (.ireturn, 1) := by decide +kernel
theorem dX7_row_0 : decode cX7_row 0 = .ok (.aload_n 0, 1) := by decide +kernel
theorem dX7_row_1 : decode cX7_row 1 = .ok (.iload_n 1, 1) := by decide +kernel
theorem dX7_row_2 : decode cX7_row 2 = .ok (.invokevirtual 120, 3) := by decide +kernel
theorem dX7_row_5 : decode cX7_row 5 = .ok (.ifCond .ne 9, 3) := by decide +kernel
theorem dX7_row_8 : decode cX7_row 8 = .ok (.aload_n 0, 1) := by decide +kernel
theorem dX7_row_9 : decode cX7_row 9 = .ok (.iconst (-1), 1) := by decide +kernel
theorem dX7_row_10 : decode cX7_row 10 = .ok (.invokevirtual 124, 3) := by decide +kernel
theorem dX7_row_13 : decode cX7_row 13 = .ok (.ireturn, 1) := by decide +kernel
theorem dX7_row_14 : decode cX7_row 14 = .ok (.iload_n 3, 1) := by decide +kernel
theorem dX7_row_15 : decode cX7_row 15 = .ok (.ifCond .ge 10, 3) := by decide +kernel
theorem dX7_row_18 : decode cX7_row 18 = .ok (.aload_n 0, 1) := by decide +kernel
theorem dX7_row_19 : decode cX7_row 19 = .ok (.bipush (-4), 2) := by decide +kernel
theorem dX7_row_21 : decode cX7_row 21 = .ok (.invokevirtual 124, 3) := by decide +kernel
theorem dX7_row_24 : decode cX7_row 24 = .ok (.ireturn, 1) := by decide +kernel
theorem dX7_row_25 : decode cX7_row 25 = .ok (.iload_n 2, 1) := by decide +kernel
theorem dX7_row_26 : decode cX7_row 26 = .ok (.ifCond .lt 8, 3) := by decide +kernel
theorem dX7_row_29 : decode cX7_row 29 = .ok (.iload_n 2, 1) := by decide +kernel
theorem dX7_row_30 : decode cX7_row 30 = .ok (.iconst 3, 1) := by decide +kernel
theorem dX7_row_31 : decode cX7_row 31 = .ok (.if_icmp .le 10, 3) := by decide +kernel
theorem dX7_row_34 : decode cX7_row 34 = .ok (.aload_n 0, 1) := by decide +kernel
theorem dX7_row_35 : decode cX7_row 35 = .ok (.bipush (-6), 2) := by decide +kernel
theorem dX7_row_37 : decode cX7_row 37 = .ok (.invokevirtual 124, 3) := by decide +kernel
theorem dX7_row_40 : decode cX7_row 40 = .ok (.ireturn, 1) := by decide +kernel
theorem dX7_row_41 : decode cX7_row 41 = .ok (.iload_n 3, 1) := by decide +kernel
theorem dX7_row_42 : decode cX7_row 42 = .ok (.sipush 160, 3) := by decide +kernel
theorem dX7_row_45 : decode cX7_row 45 = .ok (.if_icmp .le 10, 3) := by decide +kernel
theorem dX7_row_48 : decode cX7_row 48 = .ok (.aload_n 0, 1) := by decide +kernel
theorem dX7_row_49 : decode cX7_row 49 = .ok (.bipush (-7), 2) := by decide +kernel
theorem dX7_row_51 : decode cX7_row 51 = .ok (.invokevirtual 124, 3) := by decide +kernel
theorem dX7_row_54 : decode cX7_row 54 = .ok (.ireturn, 1) := by decide +kernel
theorem dX7_row_55 : decode cX7_row 55 = .ok (.aload_n 0, 1) := by decide +kernel
theorem dX7_row_56 : decode cX7_row 56 = .ok (.getfield 59, 3) := by decide +kernel
theorem dX7_row_59 : decode cX7_row 59 = .ok (.iload_n 1, 1) := by decide +kernel
theorem dX7_row_60 : decode cX7_row 60 = .ok (.iconst 1, 1) := by decide +kernel
theorem dX7_row_61 : decode cX7_row 61 = .ok (.iastore, 1) := by decide +kernel
theorem dX7_row_62 : decode cX7_row 62 = .ok (.aload_n 0, 1) := by decide +kernel
theorem dX7_row_63 : decode cX7_row 63 = .ok (.getfield 62, 3) := by decide +kernel
theorem dX7_row_66 : decode cX7_row 66 = .ok (.iload_n 1, 1) := by decide +kernel
theorem dX7_row_67 : decode cX7_row 67 = .ok (.iload_n 2, 1) := by decide +kernel
theorem dX7_row_68 : decode cX7_row 68 = .ok (.iastore, 1) := by decide +kernel
theorem dX7_row_69 : decode cX7_row 69 = .ok (.aload_n 0, 1) := by decide +kernel
theorem dX7_row_70 : decode cX7_row 70 = .ok (.getfield 65, 3) := by decide +kernel
theorem dX7_row_73 : decode cX7_row 73 = .ok (.iload_n 1, 1) := by decide +kernel
theorem dX7_row_74 : decode cX7_row 74 = .ok (.iload_n 3, 1) := by decide +kernel
theorem dX7_row_75 : decode cX7_row 75 = .ok (.iastore, 1) := by decide +kernel
theorem dX7_row_76 : decode cX7_row 76 = .ok (.iconst 0, 1) := by decide +kernel
theorem dX7_row_77 : decode cX7_row 77 = .ok (.istore 4, 2) := by decide +kernel
theorem dX7_row_79 : decode cX7_row 79 = .ok (.iload 4, 2) := by decide +kernel
theorem dX7_row_81 : decode cX7_row 81 = .ok (.sipush 160, 3) := by decide +kernel
theorem dX7_row_84 : decode cX7_row 84 = .ok (.if_icmp .ge 23, 3) := by decide +kernel
theorem dX7_row_87 : decode cX7_row 87 = .ok (.aload_n 0, 1) := by decide +kernel
theorem dX7_row_88 : decode cX7_row 88 = .ok (.getfield 71, 3) := by decide +kernel
theorem dX7_row_91 : decode cX7_row 91 = .ok (.sipush 160, 3) := by decide +kernel
theorem dX7_row_94 : decode cX7_row 94 = .ok (.iload_n 1, 1) := by decide +kernel
theorem dX7_row_95 : decode cX7_row 95 = .ok (.imul, 1) := by decide +kernel
theorem dX7_row_96 : decode cX7_row 96 = .ok (.iload 4, 2) := by decide +kernel
theorem dX7_row_98 : decode cX7_row 98 = .ok (.iadd, 1) := by decide +kernel
theorem dX7_row_99 : decode cX7_row 99 = .ok (.lconst 0, 1) := by decide +kernel
theorem dX7_row_100 : decode cX7_row 100 = .ok (.lastore, 1) := by decide +kernel
theorem dX7_row_101 : decode cX7_row 101 = .ok (.iinc 4 1, 3) := by decide +kernel
theorem dX7_row_104 : decode cX7_row 104 = .ok (.goto (-25), 3) := by decide +kernel
theorem dX7_row_107 : decode cX7_row 107 = .ok (.iconst 1, 1) := by decide +kernel
theorem dX7_row_108 : decode cX7_row 108 = .ok (.ireturn, 1) := by decide +kernel
theorem dX7_set_0 : decode cX7_set 0 = .ok (.aload_n 0, 1) := by decide +kernel
theorem dX7_set_1 : decode cX7_set 1 = .ok (.iload_n 1, 1) := by decide +kernel
theorem dX7_set_2 : decode cX7_set 2 = .ok (.invokevirtual 120, 3) := by decide +kernel
theorem dX7_set_5 : decode cX7_set 5 = .ok (.ifCond .ne 9, 3) := by decide +kernel
theorem dX7_set_8 : decode cX7_set 8 = .ok (.aload_n 0, 1) := by decide +kernel
theorem dX7_set_9 : decode cX7_set 9 = .ok (.iconst (-1), 1) := by decide +kernel
theorem dX7_set_10 : decode cX7_set 10 = .ok (.invokevirtual 124, 3) := by decide +kernel
theorem dX7_set_13 : decode cX7_set 13 = .ok (.ireturn, 1) := by decide +kernel
theorem dX7_set_14 : decode cX7_set 14 = .ok (.aload_n 0, 1) := by decide +kernel
theorem dX7_set_15 : decode cX7_set 15 = .ok (.getfield 59, 3) := by decide +kernel
theorem dX7_set_18 : decode cX7_set 18 = .ok (.iload_n 1, 1) := by decide +kernel
theorem dX7_set_19 : decode cX7_set 19 = .ok (.iaload, 1) := by decide +kernel
theorem dX7_set_20 : decode cX7_set 20 = .ok (.iconst 2, 1) := by decide +kernel
theorem dX7_set_21 : decode cX7_set 21 = .ok (.if_icmp .ne 10, 3) := by decide +kernel
theorem dX7_set_24 : decode cX7_set 24 = .ok (.aload_n 0, 1) := by decide +kernel
theorem dX7_set_25 : decode cX7_set 25 = .ok (.bipush (-2), 2) := by decide +kernel
theorem dX7_set_27 : decode cX7_set 27 = .ok (.invokevirtual 124, 3) := by decide +kernel
theorem dX7_set_30 : decode cX7_set 30 = .ok (.ireturn, 1) := by decide +kernel
theorem dX7_set_31 : decode cX7_set 31 = .ok (.aload_n 0, 1) := by decide +kernel
theorem dX7_set_32 : decode cX7_set 32 = .ok (.getfield 59, 3) := by decide +kernel
theorem dX7_set_35 : decode cX7_set 35 = .ok (.iload_n 1, 1) := by decide +kernel
theorem dX7_set_36 : decode cX7_set 36 = .ok (.iaload, 1) := by decide +kernel
theorem dX7_set_37 : decode cX7_set 37 = .ok (.ifCond .ne 10, 3) := by decide +kernel
theorem dX7_set_40 : decode cX7_set 40 = .ok (.aload_n 0, 1) := by decide +kernel
theorem dX7_set_41 : decode cX7_set 41 = .ok (.bipush (-3), 2) := by decide +kernel
theorem dX7_set_43 : decode cX7_set 43 = .ok (.invokevirtual 124, 3) := by decide +kernel
theorem dX7_set_46 : decode cX7_set 46 = .ok (.ireturn, 1) := by decide +kernel
theorem dX7_set_47 : decode cX7_set 47 = .ok (.iload_n 2, 1) := by decide +kernel
theorem dX7_set_48 : decode cX7_set 48 = .ok (.ifCond .lt 13, 3) := by decide +kernel
theorem dX7_set_51 : decode cX7_set 51 = .ok (.iload_n 2, 1) := by decide +kernel
theorem dX7_set_52 : decode cX7_set 52 = .ok (.aload_n 0, 1) := by decide +kernel
theorem dX7_set_53 : decode cX7_set 53 = .ok (.getfield 65, 3) := by decide +kernel
theorem dX7_set_56 : decode cX7_set 56 = .ok (.iload_n 1, 1) := by decide +kernel
theorem dX7_set_57 : decode cX7_set 57 = .ok (.iaload, 1) := by decide +kernel
theorem dX7_set_58 : decode cX7_set 58 = .ok (.if_icmp .lt 10, 3) := by decide +kernel
theorem dX7_set_61 : decode cX7_set 61 = .ok (.aload_n 0, 1) := by decide +kernel
theorem dX7_set_62 : decode cX7_set 62 = .ok (.bipush (-5), 2) := by decide +kernel
theorem dX7_set_64 : decode cX7_set 64 = .ok (.invokevirtual 124, 3) := by decide +kernel
theorem dX7_set_67 : decode cX7_set 67 = .ok (.ireturn, 1) := by decide +kernel
theorem dX7_set_68 : decode cX7_set 68 = .ok (.aload_n 0, 1) := by decide +kernel
theorem dX7_set_69 : decode cX7_set 69 = .ok (.getfield 71, 3) := by decide +kernel
theorem dX7_set_72 : decode cX7_set 72 = .ok (.sipush 160, 3) := by decide +kernel
theorem dX7_set_75 : decode cX7_set 75 = .ok (.iload_n 1, 1) := by decide +kernel
theorem dX7_set_76 : decode cX7_set 76 = .ok (.imul, 1) := by decide +kernel
theorem dX7_set_77 : decode cX7_set 77 = .ok (.iload_n 2, 1) := by decide +kernel
theorem dX7_set_78 : decode cX7_set 78 = .ok (.iadd, 1) := by decide +kernel
theorem dX7_set_79 : decode cX7_set 79 = .ok (.aload_n 0, 1) := by decide +kernel
theorem dX7_set_80 : decode cX7_set 80 = .ok (.getfield 62, 3) := by decide +kernel
theorem dX7_set_83 : decode cX7_set 83 = .ok (.iload_n 1, 1) := by decide +kernel
theorem dX7_set_84 : decode cX7_set 84 = .ok (.iaload, 1) := by decide +kernel
theorem dX7_set_85 : decode cX7_set 85 = .ok (.ifCond .ne 10, 3) := by decide +kernel
theorem dX7_set_88 : decode cX7_set 88 = .ok (.lload_n 3, 1) := by decide +kernel
theorem dX7_set_89 : decode cX7_set 89 = .ok (.l2i, 1) := by decide +kernel
theorem dX7_set_90 : decode cX7_set 90 = .ok (.i2b, 1) := by decide +kernel
theorem dX7_set_91 : decode cX7_set 91 = .ok (.i2l, 1) := by decide +kernel
theorem dX7_set_92 : decode cX7_set 92 = .ok (.goto 37, 3) := by decide +kernel
theorem dX7_set_95 : decode cX7_set 95 = .ok (.aload_n 0, 1) := by decide +kernel
theorem dX7_set_96 : decode cX7_set 96 = .ok (.getfield 62, 3) := by decide +kernel
theorem dX7_set_99 : decode cX7_set 99 = .ok (.iload_n 1, 1) := by decide +kernel
theorem dX7_set_100 : decode cX7_set 100 = .ok (.iaload, 1) := by decide +kernel
theorem dX7_set_101 : decode cX7_set 101 = .ok (.iconst 1, 1) := by decide +kernel
theorem dX7_set_102 : decode cX7_set 102 = .ok (.if_icmp .ne 10, 3) := by decide +kernel
theorem dX7_set_105 : decode cX7_set 105 = .ok (.lload_n 3, 1) := by decide +kernel
theorem dX7_set_106 : decode cX7_set 106 = .ok (.l2i, 1) := by decide +kernel
theorem dX7_set_107 : decode cX7_set 107 = .ok (.i2s, 1) := by decide +kernel
theorem dX7_set_108 : decode cX7_set 108 = .ok (.i2l, 1) := by decide +kernel
theorem dX7_set_109 : decode cX7_set 109 = .ok (.goto 20, 3) := by decide +kernel
theorem dX7_set_112 : decode cX7_set 112 = .ok (.aload_n 0, 1) := by decide +kernel
theorem dX7_set_113 : decode cX7_set 113 = .ok (.getfield 62, 3) := by decide +kernel
theorem dX7_set_116 : decode cX7_set 116 = .ok (.iload_n 1, 1) := by decide +kernel
theorem dX7_set_117 : decode cX7_set 117 = .ok (.iaload, 1) := by decide +kernel
theorem dX7_set_118 : decode cX7_set 118 = .ok (.iconst 2, 1) := by decide +kernel
theorem dX7_set_119 : decode cX7_set 119 = .ok (.if_icmp .ne 9, 3) := by decide +kernel
theorem dX7_set_122 : decode cX7_set 122 = .ok (.lload_n 3, 1) := by decide +kernel
theorem dX7_set_123 : decode cX7_set 123 = .ok (.l2i, 1) := by decide +kernel
theorem dX7_set_124 : decode cX7_set 124 = .ok (.i2l, 1) := by decide +kernel
theorem dX7_set_125 : decode cX7_set 125 = .ok (.goto 4, 3) := by decide +kernel
theorem dX7_set_128 : decode cX7_set 128 = .ok (.lload_n 3, 1) := by decide +kernel
theorem dX7_set_129 : decode cX7_set 129 = .ok (.lastore, 1) := by decide +kernel
theorem dX7_set_130 : decode cX7_set 130 = .ok (.iconst 1, 1) := by decide +kernel
theorem dX7_set_131 : decode cX7_set 131 = .ok (.ireturn, 1) := by decide +kernel
theorem dX7_copy_0 : decode cX7_copy 0 = .ok (.aload_n 0, 1) := by decide +kernel
theorem dX7_copy_1 : decode cX7_copy 1 = .ok (.iload_n 1, 1) := by decide +kernel
theorem dX7_copy_2 : decode cX7_copy 2 = .ok (.invokevirtual 120, 3) := by decide +kernel
theorem dX7_copy_5 : decode cX7_copy 5 = .ok (.ifCond .eq 11, 3) := by decide +kernel
theorem dX7_copy_8 : decode cX7_copy 8 = .ok (.aload_n 0, 1) := by decide +kernel
theorem dX7_copy_9 : decode cX7_copy 9 = .ok (.iload_n 2, 1) := by decide +kernel
theorem dX7_copy_10 : decode cX7_copy 10 = .ok (.invokevirtual 120, 3) := by decide +kernel
theorem dX7_copy_13 : decode cX7_copy 13 = .ok (.ifCond .ne 9, 3) := by decide +kernel
theorem dX7_copy_16 : decode cX7_copy 16 = .ok (.aload_n 0, 1) := by decide +kernel
theorem dX7_copy_17 : decode cX7_copy 17 = .ok (.iconst (-1), 1) := by decide +kernel
theorem dX7_copy_18 : decode cX7_copy 18 = .ok (.invokevirtual 124, 3) := by decide +kernel
theorem dX7_copy_21 : decode cX7_copy 21 = .ok (.ireturn, 1) := by decide +kernel
theorem dX7_copy_22 : decode cX7_copy 22 = .ok (.aload_n 0, 1) := by decide +kernel
theorem dX7_copy_23 : decode cX7_copy 23 = .ok (.getfield 59, 3) := by decide +kernel
theorem dX7_copy_26 : decode cX7_copy 26 = .ok (.iload_n 1, 1) := by decide +kernel
theorem dX7_copy_27 : decode cX7_copy 27 = .ok (.iaload, 1) := by decide +kernel
theorem dX7_copy_28 : decode cX7_copy 28 = .ok (.iconst 2, 1) := by decide +kernel
theorem dX7_copy_29 : decode cX7_copy 29 = .ok (.if_icmp .eq 48, 3) := by decide +kernel
theorem dX7_copy_32 : decode cX7_copy 32 = .ok (.aload_n 0, 1) := by decide +kernel
theorem dX7_copy_33 : decode cX7_copy 33 = .ok (.getfield 59, 3) := by decide +kernel
theorem dX7_copy_36 : decode cX7_copy 36 = .ok (.iload_n 2, 1) := by decide +kernel
theorem dX7_copy_37 : decode cX7_copy 37 = .ok (.iaload, 1) := by decide +kernel
theorem dX7_copy_38 : decode cX7_copy 38 = .ok (.iconst 2, 1) := by decide +kernel
theorem dX7_copy_39 : decode cX7_copy 39 = .ok (.if_icmp .eq 38, 3) := by decide +kernel
theorem dX7_copy_42 : decode cX7_copy 42 = .ok (.aload_n 0, 1) := by decide +kernel
theorem dX7_copy_43 : decode cX7_copy 43 = .ok (.getfield 59, 3) := by decide +kernel
theorem dX7_copy_46 : decode cX7_copy 46 = .ok (.iload_n 1, 1) := by decide +kernel
theorem dX7_copy_47 : decode cX7_copy 47 = .ok (.iaload, 1) := by decide +kernel
theorem dX7_copy_48 : decode cX7_copy 48 = .ok (.iconst 1, 1) := by decide +kernel
theorem dX7_copy_49 : decode cX7_copy 49 = .ok (.if_icmp .ne 35, 3) := by decide +kernel
theorem dX7_copy_52 : decode cX7_copy 52 = .ok (.aload_n 0, 1) := by decide +kernel
theorem dX7_copy_53 : decode cX7_copy 53 = .ok (.getfield 59, 3) := by decide +kernel
theorem dX7_copy_56 : decode cX7_copy 56 = .ok (.iload_n 2, 1) := by decide +kernel
theorem dX7_copy_57 : decode cX7_copy 57 = .ok (.iaload, 1) := by decide +kernel
theorem dX7_copy_58 : decode cX7_copy 58 = .ok (.iconst 1, 1) := by decide +kernel
theorem dX7_copy_59 : decode cX7_copy 59 = .ok (.if_icmp .ne 25, 3) := by decide +kernel
theorem dX7_copy_62 : decode cX7_copy 62 = .ok (.aload_n 0, 1) := by decide +kernel
theorem dX7_copy_63 : decode cX7_copy 63 = .ok (.getfield 62, 3) := by decide +kernel
theorem dX7_copy_66 : decode cX7_copy 66 = .ok (.iload_n 1, 1) := by decide +kernel
theorem dX7_copy_67 : decode cX7_copy 67 = .ok (.iaload, 1) := by decide +kernel
theorem dX7_copy_68 : decode cX7_copy 68 = .ok (.aload_n 0, 1) := by decide +kernel
theorem dX7_copy_69 : decode cX7_copy 69 = .ok (.getfield 62, 3) := by decide +kernel
theorem dX7_copy_72 : decode cX7_copy 72 = .ok (.iload_n 2, 1) := by decide +kernel
theorem dX7_copy_73 : decode cX7_copy 73 = .ok (.iaload, 1) := by decide +kernel
theorem dX7_copy_74 : decode cX7_copy 74 = .ok (.if_icmp .eq 10, 3) := by decide +kernel
theorem dX7_copy_77 : decode cX7_copy 77 = .ok (.aload_n 0, 1) := by decide +kernel
theorem dX7_copy_78 : decode cX7_copy 78 = .ok (.bipush (-2), 2) := by decide +kernel
theorem dX7_copy_80 : decode cX7_copy 80 = .ok (.invokevirtual 124, 3) := by decide +kernel
theorem dX7_copy_83 : decode cX7_copy 83 = .ok (.ireturn, 1) := by decide +kernel
theorem dX7_copy_84 : decode cX7_copy 84 = .ok (.aload_n 0, 1) := by decide +kernel
theorem dX7_copy_85 : decode cX7_copy 85 = .ok (.getfield 59, 3) := by decide +kernel
theorem dX7_copy_88 : decode cX7_copy 88 = .ok (.iload_n 1, 1) := by decide +kernel
theorem dX7_copy_89 : decode cX7_copy 89 = .ok (.iaload, 1) := by decide +kernel
theorem dX7_copy_90 : decode cX7_copy 90 = .ok (.ifCond .eq 12, 3) := by decide +kernel
theorem dX7_copy_93 : decode cX7_copy 93 = .ok (.aload_n 0, 1) := by decide +kernel
theorem dX7_copy_94 : decode cX7_copy 94 = .ok (.getfield 59, 3) := by decide +kernel
theorem dX7_copy_97 : decode cX7_copy 97 = .ok (.iload_n 2, 1) := by decide +kernel
theorem dX7_copy_98 : decode cX7_copy 98 = .ok (.iaload, 1) := by decide +kernel
theorem dX7_copy_99 : decode cX7_copy 99 = .ok (.ifCond .ne 10, 3) := by decide +kernel
theorem dX7_copy_102 : decode cX7_copy 102 = .ok (.aload_n 0, 1) := by decide +kernel
theorem dX7_copy_103 : decode cX7_copy 103 = .ok (.bipush (-3), 2) := by decide +kernel
theorem dX7_copy_105 : decode cX7_copy 105 = .ok (.invokevirtual 124, 3) := by decide +kernel
theorem dX7_copy_108 : decode cX7_copy 108 = .ok (.ireturn, 1) := by decide +kernel
theorem dX7_copy_109 : decode cX7_copy 109 = .ok (.iload 5, 2) := by decide +kernel
theorem dX7_copy_111 : decode cX7_copy 111 = .ok (.ifCond .ge 10, 3) := by decide +kernel
theorem dX7_copy_114 : decode cX7_copy 114 = .ok (.aload_n 0, 1) := by decide +kernel
theorem dX7_copy_115 : decode cX7_copy 115 = .ok (.bipush (-4), 2) := by decide +kernel
theorem dX7_copy_117 : decode cX7_copy 117 = .ok (.invokevirtual 124, 3) := by decide +kernel
theorem dX7_copy_120 : decode cX7_copy 120 = .ok (.ireturn, 1) := by decide +kernel
theorem dX7_copy_121 : decode cX7_copy 121 = .ok (.iload_n 3, 1) := by decide +kernel
theorem dX7_copy_122 : decode cX7_copy 122 = .ok (.ifCond .lt 35, 3) := by decide +kernel
theorem dX7_copy_125 : decode cX7_copy 125 = .ok (.iload 4, 2) := by decide +kernel
theorem dX7_copy_127 : decode cX7_copy 127 = .ok (.ifCond .lt 30, 3) := by decide +kernel
theorem dX7_copy_130 : decode cX7_copy 130 = .ok (.iload_n 3, 1) := by decide +kernel
theorem dX7_copy_131 : decode cX7_copy 131 = .ok (.aload_n 0, 1) := by decide +kernel
theorem dX7_copy_132 : decode cX7_copy 132 = .ok (.getfield 65, 3) := by decide +kernel
theorem dX7_copy_135 : decode cX7_copy 135 = .ok (.iload_n 1, 1) := by decide +kernel
theorem dX7_copy_136 : decode cX7_copy 136 = .ok (.iaload, 1) := by decide +kernel
theorem dX7_copy_137 : decode cX7_copy 137 = .ok (.iload 5, 2) := by decide +kernel
theorem dX7_copy_139 : decode cX7_copy 139 = .ok (.isub, 1) := by decide +kernel
theorem dX7_copy_140 : decode cX7_copy 140 = .ok (.if_icmp .gt 17, 3) := by decide +kernel
theorem dX7_copy_143 : decode cX7_copy 143 = .ok (.iload 4, 2) := by decide +kernel
theorem dX7_copy_145 : decode cX7_copy 145 = .ok (.aload_n 0, 1) := by decide +kernel
theorem dX7_copy_146 : decode cX7_copy 146 = .ok (.getfield 65, 3) := by decide +kernel
theorem dX7_copy_149 : decode cX7_copy 149 = .ok (.iload_n 2, 1) := by decide +kernel
theorem dX7_copy_150 : decode cX7_copy 150 = .ok (.iaload, 1) := by decide +kernel
theorem dX7_copy_151 : decode cX7_copy 151 = .ok (.iload 5, 2) := by decide +kernel
theorem dX7_copy_153 : decode cX7_copy 153 = .ok (.isub, 1) := by decide +kernel
theorem dX7_copy_154 : decode cX7_copy 154 = .ok (.if_icmp .le 10, 3) := by decide +kernel
theorem dX7_copy_157 : decode cX7_copy 157 = .ok (.aload_n 0, 1) := by decide +kernel
theorem dX7_copy_158 : decode cX7_copy 158 = .ok (.bipush (-5), 2) := by decide +kernel
theorem dX7_copy_160 : decode cX7_copy 160 = .ok (.invokevirtual 124, 3) := by decide +kernel
theorem dX7_copy_163 : decode cX7_copy 163 = .ok (.ireturn, 1) := by decide +kernel
theorem dX7_copy_164 : decode cX7_copy 164 = .ok (.iconst 0, 1) := by decide +kernel
theorem dX7_copy_165 : decode cX7_copy 165 = .ok (.istore 6, 2) := by decide +kernel
theorem dX7_copy_167 : decode cX7_copy 167 = .ok (.iload 6, 2) := by decide +kernel
theorem dX7_copy_169 : decode cX7_copy 169 = .ok (.iload 5, 2) := by decide +kernel
theorem dX7_copy_171 : decode cX7_copy 171 = .ok (.if_icmp .ge 31, 3) := by decide +kernel
theorem dX7_copy_174 : decode cX7_copy 174 = .ok (.aload_n 0, 1) := by decide +kernel
theorem dX7_copy_175 : decode cX7_copy 175 = .ok (.getfield 75, 3) := by decide +kernel
theorem dX7_copy_178 : decode cX7_copy 178 = .ok (.iload 6, 2) := by decide +kernel
theorem dX7_copy_180 : decode cX7_copy 180 = .ok (.aload_n 0, 1) := by decide +kernel
theorem dX7_copy_181 : decode cX7_copy 181 = .ok (.getfield 71, 3) := by decide +kernel
theorem dX7_copy_184 : decode cX7_copy 184 = .ok (.sipush 160, 3) := by decide +kernel
theorem dX7_copy_187 : decode cX7_copy 187 = .ok (.iload_n 1, 1) := by decide +kernel
theorem dX7_copy_188 : decode cX7_copy 188 = .ok (.imul, 1) := by decide +kernel
theorem dX7_copy_189 : decode cX7_copy 189 = .ok (.iload_n 3, 1) := by decide +kernel
theorem dX7_copy_190 : decode cX7_copy 190 = .ok (.iadd, 1) := by decide +kernel
theorem dX7_copy_191 : decode cX7_copy 191 = .ok (.iload 6, 2) := by decide +kernel
theorem dX7_copy_193 : decode cX7_copy 193 = .ok (.iadd, 1) := by decide +kernel
theorem dX7_copy_194 : decode cX7_copy 194 = .ok (.laload, 1) := by decide +kernel
theorem dX7_copy_195 : decode cX7_copy 195 = .ok (.lastore, 1) := by decide +kernel
theorem dX7_copy_196 : decode cX7_copy 196 = .ok (.iinc 6 1, 3) := by decide +kernel
theorem dX7_copy_199 : decode cX7_copy 199 = .ok (.goto (-32), 3) := by decide +kernel
theorem dX7_copy_202 : decode cX7_copy 202 = .ok (.iconst 0, 1) := by decide +kernel
theorem dX7_copy_203 : decode cX7_copy 203 = .ok (.istore 6, 2) := by decide +kernel
theorem dX7_copy_205 : decode cX7_copy 205 = .ok (.iload 6, 2) := by decide +kernel
theorem dX7_copy_207 : decode cX7_copy 207 = .ok (.iload 5, 2) := by decide +kernel
theorem dX7_copy_209 : decode cX7_copy 209 = .ok (.if_icmp .ge 32, 3) := by decide +kernel
theorem dX7_copy_212 : decode cX7_copy 212 = .ok (.aload_n 0, 1) := by decide +kernel
theorem dX7_copy_213 : decode cX7_copy 213 = .ok (.getfield 71, 3) := by decide +kernel
theorem dX7_copy_216 : decode cX7_copy 216 = .ok (.sipush 160, 3) := by decide +kernel
theorem dX7_copy_219 : decode cX7_copy 219 = .ok (.iload_n 2, 1) := by decide +kernel
theorem dX7_copy_220 : decode cX7_copy 220 = .ok (.imul, 1) := by decide +kernel
theorem dX7_copy_221 : decode cX7_copy 221 = .ok (.iload 4, 2) := by decide +kernel
theorem dX7_copy_223 : decode cX7_copy 223 = .ok (.iadd, 1) := by decide +kernel
theorem dX7_copy_224 : decode cX7_copy 224 = .ok (.iload 6, 2) := by decide +kernel
theorem dX7_copy_226 : decode cX7_copy 226 = .ok (.iadd, 1) := by decide +kernel
theorem dX7_copy_227 : decode cX7_copy 227 = .ok (.aload_n 0, 1) := by decide +kernel
theorem dX7_copy_228 : decode cX7_copy 228 = .ok (.getfield 75, 3) := by decide +kernel
theorem dX7_copy_231 : decode cX7_copy 231 = .ok (.iload 6, 2) := by decide +kernel
theorem dX7_copy_233 : decode cX7_copy 233 = .ok (.laload, 1) := by decide +kernel
theorem dX7_copy_234 : decode cX7_copy 234 = .ok (.lastore, 1) := by decide +kernel
theorem dX7_copy_235 : decode cX7_copy 235 = .ok (.iinc 6 1, 3) := by decide +kernel
theorem dX7_copy_238 : decode cX7_copy 238 = .ok (.goto (-33), 3) := by decide +kernel
theorem dX7_copy_241 : decode cX7_copy 241 = .ok (.iconst 1, 1) := by decide +kernel
theorem dX7_copy_242 : decode cX7_copy 242 = .ok (.ireturn, 1) := by decide +kernel
theorem dX7_element_0 : decode cX7_element 0 = .ok (.aload_n 0, 1) := by decide +kernel
theorem dX7_element_1 : decode cX7_element 1 = .ok (.iload_n 1, 1) := by decide +kernel
theorem dX7_element_2 : decode cX7_element 2 = .ok (.invokevirtual 120, 3) := by decide +kernel
theorem dX7_element_5 : decode cX7_element 5 = .ok (.ifCond .eq 42, 3) := by decide +kernel
theorem dX7_element_8 : decode cX7_element 8 = .ok (.aload_n 0, 1) := by decide +kernel
theorem dX7_element_9 : decode cX7_element 9 = .ok (.getfield 59, 3) := by decide +kernel
theorem dX7_element_12 : decode cX7_element 12 = .ok (.iload_n 1, 1) := by decide +kernel
theorem dX7_element_13 : decode cX7_element 13 = .ok (.iaload, 1) := by decide +kernel
theorem dX7_element_14 : decode cX7_element 14 = .ok (.iconst 1, 1) := by decide +kernel
theorem dX7_element_15 : decode cX7_element 15 = .ok (.if_icmp .ne 32, 3) := by decide +kernel
theorem dX7_element_18 : decode cX7_element 18 = .ok (.iload_n 2, 1) := by decide +kernel
theorem dX7_element_19 : decode cX7_element 19 = .ok (.ifCond .lt 28, 3) := by decide +kernel
theorem dX7_element_22 : decode cX7_element 22 = .ok (.iload_n 2, 1) := by decide +kernel
theorem dX7_element_23 : decode cX7_element 23 = .ok (.aload_n 0, 1) := by decide +kernel
theorem dX7_element_24 : decode cX7_element 24 = .ok (.getfield 65, 3) := by decide +kernel
theorem dX7_element_27 : decode cX7_element 27 = .ok (.iload_n 1, 1) := by decide +kernel
theorem dX7_element_28 : decode cX7_element 28 = .ok (.iaload, 1) := by decide +kernel
theorem dX7_element_29 : decode cX7_element 29 = .ok (.if_icmp .ge 18, 3) := by decide +kernel
theorem dX7_element_32 : decode cX7_element 32 = .ok (.aload_n 0, 1) := by decide +kernel
theorem dX7_element_33 : decode cX7_element 33 = .ok (.getfield 71, 3) := by decide +kernel
theorem dX7_element_36 : decode cX7_element 36 = .ok (.sipush 160, 3) := by decide +kernel
theorem dX7_element_39 : decode cX7_element 39 = .ok (.iload_n 1, 1) := by decide +kernel
theorem dX7_element_40 : decode cX7_element 40 = .ok (.imul, 1) := by decide +kernel
theorem dX7_element_41 : decode cX7_element 41 = .ok (.iload_n 2, 1) := by decide +kernel
theorem dX7_element_42 : decode cX7_element 42 = .ok (.iadd, 1) := by decide +kernel
theorem dX7_element_43 : decode cX7_element 43 = .ok (.laload, 1) := by decide +kernel
theorem dX7_element_44 : decode cX7_element 44 = .ok (.goto 4, 3) := by decide +kernel
theorem dX7_element_47 : decode cX7_element 47 = .ok (.lconst 0, 1) := by decide +kernel
theorem dX7_element_48 : decode cX7_element 48 = .ok (.lreturn, 1) := by decide +kernel
theorem dX7_show_0 : decode cX7_show 0 = .ok (.aload_n 0, 1) := by decide +kernel
theorem dX7_show_1 : decode cX7_show 1 = .ok (.iload_n 1, 1) := by decide +kernel
theorem dX7_show_2 : decode cX7_show 2 = .ok (.invokevirtual 120, 3) := by decide +kernel
theorem dX7_show_5 : decode cX7_show 5 = .ok (.ifCond .eq 16, 3) := by decide +kernel
theorem dX7_show_8 : decode cX7_show 8 = .ok (.iload_n 2, 1) := by decide +kernel
theorem dX7_show_9 : decode cX7_show 9 = .ok (.iconst (-1), 1) := by decide +kernel
theorem dX7_show_10 : decode cX7_show 10 = .ok (.if_icmp .eq 17, 3) := by decide +kernel
theorem dX7_show_13 : decode cX7_show 13 = .ok (.aload_n 0, 1) := by decide +kernel
theorem dX7_show_14 : decode cX7_show 14 = .ok (.iload_n 2, 1) := by decide +kernel
theorem dX7_show_15 : decode cX7_show 15 = .ok (.invokevirtual 128, 3) := by decide +kernel
theorem dX7_show_18 : decode cX7_show 18 = .ok (.ifCond .ne 9, 3) := by decide +kernel
theorem dX7_show_21 : decode cX7_show 21 = .ok (.aload_n 0, 1) := by decide +kernel
theorem dX7_show_22 : decode cX7_show 22 = .ok (.iconst (-1), 1) := by decide +kernel
theorem dX7_show_23 : decode cX7_show 23 = .ok (.invokevirtual 124, 3) := by decide +kernel
theorem dX7_show_26 : decode cX7_show 26 = .ok (.ireturn, 1) := by decide +kernel
theorem dX7_show_27 : decode cX7_show 27 = .ok (.aload_n 0, 1) := by decide +kernel
theorem dX7_show_28 : decode cX7_show 28 = .ok (.getfield 59, 3) := by decide +kernel
theorem dX7_show_31 : decode cX7_show 31 = .ok (.iload_n 1, 1) := by decide +kernel
theorem dX7_show_32 : decode cX7_show 32 = .ok (.iload_n 2, 1) := by decide +kernel
theorem dX7_show_33 : decode cX7_show 33 = .ok (.iconst (-1), 1) := by decide +kernel
theorem dX7_show_34 : decode cX7_show 34 = .ok (.if_icmp .ne 7, 3) := by decide +kernel
theorem dX7_show_37 : decode cX7_show 37 = .ok (.iconst 0, 1) := by decide +kernel
theorem dX7_show_38 : decode cX7_show 38 = .ok (.goto 4, 3) := by decide +kernel
theorem dX7_show_41 : decode cX7_show 41 = .ok (.iconst 2, 1) := by decide +kernel
theorem dX7_show_42 : decode cX7_show 42 = .ok (.iastore, 1) := by decide +kernel
theorem dX7_show_43 : decode cX7_show 43 = .ok (.aload_n 0, 1) := by decide +kernel
theorem dX7_show_44 : decode cX7_show 44 = .ok (.getfield 68, 3) := by decide +kernel
theorem dX7_show_47 : decode cX7_show 47 = .ok (.iload_n 1, 1) := by decide +kernel
theorem dX7_show_48 : decode cX7_show 48 = .ok (.iload_n 2, 1) := by decide +kernel
theorem dX7_show_49 : decode cX7_show 49 = .ok (.iastore, 1) := by decide +kernel
theorem dX7_show_50 : decode cX7_show 50 = .ok (.iload_n 2, 1) := by decide +kernel
theorem dX7_show_51 : decode cX7_show 51 = .ok (.iconst (-1), 1) := by decide +kernel
theorem dX7_show_52 : decode cX7_show 52 = .ok (.if_icmp .ne 7, 3) := by decide +kernel
theorem dX7_show_55 : decode cX7_show 55 = .ok (.iconst 0, 1) := by decide +kernel
theorem dX7_show_56 : decode cX7_show 56 = .ok (.goto 4, 3) := by decide +kernel
theorem dX7_show_59 : decode cX7_show 59 = .ok (.iconst 1, 1) := by decide +kernel
theorem dX7_show_60 : decode cX7_show 60 = .ok (.ireturn, 1) := by decide +kernel
theorem dX7_holds_0 : decode cX7_holds 0 = .ok (.aload_n 0, 1) := by decide +kernel
theorem dX7_holds_1 : decode cX7_holds 1 = .ok (.iload_n 1, 1) := by decide +kernel
theorem dX7_holds_2 : decode cX7_holds 2 = .ok (.invokevirtual 120, 3) := by decide +kernel
theorem dX7_holds_5 : decode cX7_holds 5 = .ok (.ifCond .eq 12, 3) := by decide +kernel
theorem dX7_holds_8 : decode cX7_holds 8 = .ok (.aload_n 0, 1) := by decide +kernel
theorem dX7_holds_9 : decode cX7_holds 9 = .ok (.getfield 59, 3) := by decide +kernel
theorem dX7_holds_12 : decode cX7_holds 12 = .ok (.iload_n 1, 1) := by decide +kernel
theorem dX7_holds_13 : decode cX7_holds 13 = .ok (.iaload, 1) := by decide +kernel
theorem dX7_holds_14 : decode cX7_holds 14 = .ok (.ifCond .ne 5, 3) := by decide +kernel
theorem dX7_holds_17 : decode cX7_holds 17 = .ok (.iconst (-1), 1) := by decide +kernel
theorem dX7_holds_18 : decode cX7_holds 18 = .ok (.ireturn, 1) := by decide +kernel
theorem dX7_holds_19 : decode cX7_holds 19 = .ok (.aload_n 0, 1) := by decide +kernel
theorem dX7_holds_20 : decode cX7_holds 20 = .ok (.getfield 59, 3) := by decide +kernel
theorem dX7_holds_23 : decode cX7_holds 23 = .ok (.iload_n 1, 1) := by decide +kernel
theorem dX7_holds_24 : decode cX7_holds 24 = .ok (.iaload, 1) := by decide +kernel
theorem dX7_holds_25 : decode cX7_holds 25 = .ok (.iconst 1, 1) := by decide +kernel
theorem dX7_holds_26 : decode cX7_holds 26 = .ok (.if_icmp .ne 15, 3) := by decide +kernel
theorem dX7_holds_29 : decode cX7_holds 29 = .ok (.bipush 100, 2) := by decide +kernel
theorem dX7_holds_31 : decode cX7_holds 31 = .ok (.aload_n 0, 1) := by decide +kernel
theorem dX7_holds_32 : decode cX7_holds 32 = .ok (.getfield 62, 3) := by decide +kernel
theorem dX7_holds_35 : decode cX7_holds 35 = .ok (.iload_n 1, 1) := by decide +kernel
theorem dX7_holds_36 : decode cX7_holds 36 = .ok (.iaload, 1) := by decide +kernel
theorem dX7_holds_37 : decode cX7_holds 37 = .ok (.iadd, 1) := by decide +kernel
theorem dX7_holds_38 : decode cX7_holds 38 = .ok (.goto 9, 3) := by decide +kernel
theorem dX7_holds_41 : decode cX7_holds 41 = .ok (.aload_n 0, 1) := by decide +kernel
theorem dX7_holds_42 : decode cX7_holds 42 = .ok (.getfield 68, 3) := by decide +kernel
theorem dX7_holds_45 : decode cX7_holds 45 = .ok (.iload_n 1, 1) := by decide +kernel
theorem dX7_holds_46 : decode cX7_holds 46 = .ok (.iaload, 1) := by decide +kernel
theorem dX7_holds_47 : decode cX7_holds 47 = .ok (.ireturn, 1) := by decide +kernel
theorem dX7_says_0 : decode cX7_says 0 = .ok (.aload_n 0, 1) := by decide +kernel
theorem dX7_says_1 : decode cX7_says 1 = .ok (.iload_n 1, 1) := by decide +kernel
theorem dX7_says_2 : decode cX7_says 2 = .ok (.invokevirtual 120, 3) := by decide +kernel
theorem dX7_says_5 : decode cX7_says 5 = .ok (.ifCond .eq 13, 3) := by decide +kernel
theorem dX7_says_8 : decode cX7_says 8 = .ok (.iload_n 2, 1) := by decide +kernel
theorem dX7_says_9 : decode cX7_says 9 = .ok (.ifCond .lt 9, 3) := by decide +kernel
theorem dX7_says_12 : decode cX7_says 12 = .ok (.iload_n 2, 1) := by decide +kernel
theorem dX7_says_13 : decode cX7_says 13 = .ok (.bipush 6, 2) := by decide +kernel
theorem dX7_says_15 : decode cX7_says 15 = .ok (.if_icmp .le 9, 3) := by decide +kernel
theorem dX7_says_18 : decode cX7_says 18 = .ok (.aload_n 0, 1) := by decide +kernel
theorem dX7_says_19 : decode cX7_says 19 = .ok (.iconst (-1), 1) := by decide +kernel
theorem dX7_says_20 : decode cX7_says 20 = .ok (.invokevirtual 124, 3) := by decide +kernel
theorem dX7_says_23 : decode cX7_says 23 = .ok (.ireturn, 1) := by decide +kernel
theorem dX7_says_24 : decode cX7_says 24 = .ok (.aload_n 0, 1) := by decide +kernel
theorem dX7_says_25 : decode cX7_says 25 = .ok (.getfield 59, 3) := by decide +kernel
theorem dX7_says_28 : decode cX7_says 28 = .ok (.iload_n 1, 1) := by decide +kernel
theorem dX7_says_29 : decode cX7_says 29 = .ok (.iaload, 1) := by decide +kernel
theorem dX7_says_30 : decode cX7_says 30 = .ok (.iconst 1, 1) := by decide +kernel
theorem dX7_says_31 : decode cX7_says 31 = .ok (.if_icmp .ne 10, 3) := by decide +kernel
theorem dX7_says_34 : decode cX7_says 34 = .ok (.aload_n 0, 1) := by decide +kernel
theorem dX7_says_35 : decode cX7_says 35 = .ok (.bipush (-2), 2) := by decide +kernel
theorem dX7_says_37 : decode cX7_says 37 = .ok (.invokevirtual 124, 3) := by decide +kernel
theorem dX7_says_40 : decode cX7_says 40 = .ok (.ireturn, 1) := by decide +kernel
theorem dX7_says_41 : decode cX7_says 41 = .ok (.aload_n 0, 1) := by decide +kernel
theorem dX7_says_42 : decode cX7_says 42 = .ok (.getfield 59, 3) := by decide +kernel
theorem dX7_says_45 : decode cX7_says 45 = .ok (.iload_n 1, 1) := by decide +kernel
theorem dX7_says_46 : decode cX7_says 46 = .ok (.iaload, 1) := by decide +kernel
theorem dX7_says_47 : decode cX7_says 47 = .ok (.ifCond .ne 10, 3) := by decide +kernel
theorem dX7_says_50 : decode cX7_says 50 = .ok (.aload_n 0, 1) := by decide +kernel
theorem dX7_says_51 : decode cX7_says 51 = .ok (.bipush (-3), 2) := by decide +kernel
theorem dX7_says_53 : decode cX7_says 53 = .ok (.invokevirtual 124, 3) := by decide +kernel
theorem dX7_says_56 : decode cX7_says 56 = .ok (.ireturn, 1) := by decide +kernel
theorem dX7_says_57 : decode cX7_says 57 = .ok (.aload_n 0, 1) := by decide +kernel
theorem dX7_says_58 : decode cX7_says 58 = .ok (.getfield 68, 3) := by decide +kernel
theorem dX7_says_61 : decode cX7_says 61 = .ok (.iload_n 1, 1) := by decide +kernel
theorem dX7_says_62 : decode cX7_says 62 = .ok (.iaload, 1) := by decide +kernel
theorem dX7_says_63 : decode cX7_says 63 = .ok (.istore_n 3, 1) := by decide +kernel
theorem dX7_says_64 : decode cX7_says 64 = .ok (.aload_n 0, 1) := by decide +kernel
theorem dX7_says_65 : decode cX7_says 65 = .ok (.getfield 26, 3) := by decide +kernel
theorem dX7_says_68 : decode cX7_says 68 = .ok (.iload_n 3, 1) := by decide +kernel
theorem dX7_says_69 : decode cX7_says 69 = .ok (.iaload, 1) := by decide +kernel
theorem dX7_says_70 : decode cX7_says 70 = .ok (.istore 4, 2) := by decide +kernel
theorem dX7_says_72 : decode cX7_says 72 = .ok (.iload_n 2, 1) := by decide +kernel
theorem dX7_says_73 : decode cX7_says 73 = .ok (.iconst 1, 1) := by decide +kernel
theorem dX7_says_74 : decode cX7_says 74 = .ok (.if_icmp .ne 9, 3) := by decide +kernel
theorem dX7_says_77 : decode cX7_says 77 = .ok (.iload 4, 2) := by decide +kernel
theorem dX7_says_79 : decode cX7_says 79 = .ok (.iconst 3, 1) := by decide +kernel
theorem dX7_says_80 : decode cX7_says 80 = .ok (.if_icmp .eq 26, 3) := by decide +kernel
theorem dX7_says_83 : decode cX7_says 83 = .ok (.iload_n 2, 1) := by decide +kernel
theorem dX7_says_84 : decode cX7_says 84 = .ok (.iconst 2, 1) := by decide +kernel
theorem dX7_says_85 : decode cX7_says 85 = .ok (.if_icmp .ne 9, 3) := by decide +kernel
theorem dX7_says_88 : decode cX7_says 88 = .ok (.iload 4, 2) := by decide +kernel
theorem dX7_says_90 : decode cX7_says 90 = .ok (.iconst 5, 1) := by decide +kernel
theorem dX7_says_91 : decode cX7_says 91 = .ok (.if_icmp .eq 15, 3) := by decide +kernel
theorem dX7_says_94 : decode cX7_says 94 = .ok (.iload_n 2, 1) := by decide +kernel
theorem dX7_says_95 : decode cX7_says 95 = .ok (.iconst 4, 1) := by decide +kernel
theorem dX7_says_96 : decode cX7_says 96 = .ok (.if_icmp .ne 14, 3) := by decide +kernel
theorem dX7_says_99 : decode cX7_says 99 = .ok (.iload 4, 2) := by decide +kernel
theorem dX7_says_101 : decode cX7_says 101 = .ok (.bipush 6, 2) := by decide +kernel
theorem dX7_says_103 : decode cX7_says 103 = .ok (.if_icmp .ne 7, 3) := by decide +kernel
theorem dX7_says_106 : decode cX7_says 106 = .ok (.iconst 1, 1) := by decide +kernel
theorem dX7_says_107 : decode cX7_says 107 = .ok (.goto 4, 3) := by decide +kernel
theorem dX7_says_110 : decode cX7_says 110 = .ok (.iconst 0, 1) := by decide +kernel
theorem dX7_says_111 : decode cX7_says 111 = .ok (.istore 5, 2) := by decide +kernel
theorem dX7_says_113 : decode cX7_says 113 = .ok (.iload_n 2, 1) := by decide +kernel
theorem dX7_says_114 : decode cX7_says 114 = .ok (.ifCond .eq 21, 3) := by decide +kernel
theorem dX7_says_117 : decode cX7_says 117 = .ok (.iload_n 2, 1) := by decide +kernel
theorem dX7_says_118 : decode cX7_says 118 = .ok (.iload 4, 2) := by decide +kernel
theorem dX7_says_120 : decode cX7_says 120 = .ok (.if_icmp .eq 15, 3) := by decide +kernel
theorem dX7_says_123 : decode cX7_says 123 = .ok (.iload 5, 2) := by decide +kernel
theorem dX7_says_125 : decode cX7_says 125 = .ok (.ifCond .ne 10, 3) := by decide +kernel
theorem dX7_says_128 : decode cX7_says 128 = .ok (.aload_n 0, 1) := by decide +kernel
theorem dX7_says_129 : decode cX7_says 129 = .ok (.bipush (-2), 2) := by decide +kernel
theorem dX7_says_131 : decode cX7_says 131 = .ok (.invokevirtual 124, 3) := by decide +kernel
theorem dX7_says_134 : decode cX7_says 134 = .ok (.ireturn, 1) := by decide +kernel
theorem dX7_says_135 : decode cX7_says 135 = .ok (.iload_n 2, 1) := by decide +kernel
theorem dX7_says_136 : decode cX7_says 136 = .ok (.tableswitch 67 0 5 #[40, 47, 60, 47, 67, 60], 40) := by decide +kernel
theorem dX7_says_176 : decode cX7_says 176 = .ok (.aload_n 0, 1) := by decide +kernel
theorem dX7_says_177 : decode cX7_says 177 = .ok (.getfield 32, 3) := by decide +kernel
theorem dX7_says_180 : decode cX7_says 180 = .ok (.iload_n 3, 1) := by decide +kernel
theorem dX7_says_181 : decode cX7_says 181 = .ok (.iaload, 1) := by decide +kernel
theorem dX7_says_182 : decode cX7_says 182 = .ok (.ireturn, 1) := by decide +kernel
theorem dX7_says_183 : decode cX7_says 183 = .ok (.aload_n 0, 1) := by decide +kernel
theorem dX7_says_184 : decode cX7_says 184 = .ok (.iload_n 3, 1) := by decide +kernel
theorem dX7_says_185 : decode cX7_says 185 = .ok (.invokevirtual 131, 3) := by decide +kernel
theorem dX7_says_188 : decode cX7_says 188 = .ok (.aload_n 0, 1) := by decide +kernel
theorem dX7_says_189 : decode cX7_says 189 = .ok (.getfield 32, 3) := by decide +kernel
theorem dX7_says_192 : decode cX7_says 192 = .ok (.iload_n 3, 1) := by decide +kernel
theorem dX7_says_193 : decode cX7_says 193 = .ok (.iaload, 1) := by decide +kernel
theorem dX7_says_194 : decode cX7_says 194 = .ok (.isub, 1) := by decide +kernel
theorem dX7_says_195 : decode cX7_says 195 = .ok (.ireturn, 1) := by decide +kernel
theorem dX7_says_196 : decode cX7_says 196 = .ok (.aload_n 0, 1) := by decide +kernel
theorem dX7_says_197 : decode cX7_says 197 = .ok (.getfield 38, 3) := by decide +kernel
theorem dX7_says_200 : decode cX7_says 200 = .ok (.iload_n 3, 1) := by decide +kernel
theorem dX7_says_201 : decode cX7_says 201 = .ok (.iaload, 1) := by decide +kernel
theorem dX7_says_202 : decode cX7_says 202 = .ok (.ireturn, 1) := by decide +kernel
theorem dX7_says_203 : decode cX7_says 203 = .ok (.aload_n 0, 1) := by decide +kernel
theorem dX7_says_204 : decode cX7_says 204 = .ok (.iload_n 3, 1) := by decide +kernel
theorem dX7_says_205 : decode cX7_says 205 = .ok (.invokevirtual 131, 3) := by decide +kernel
theorem dX7_says_208 : decode cX7_says 208 = .ok (.ireturn, 1) := by decide +kernel
theorem dX7_wanted_0 : decode cX7_wanted 0 = .ok (.aload_n 0, 1) := by decide +kernel
theorem dX7_wanted_1 : decode cX7_wanted 1 = .ok (.iload_n 1, 1) := by decide +kernel
theorem dX7_wanted_2 : decode cX7_wanted 2 = .ok (.invokevirtual 120, 3) := by decide +kernel
theorem dX7_wanted_5 : decode cX7_wanted 5 = .ok (.ifCond .ne 7, 3) := by decide +kernel
theorem dX7_wanted_8 : decode cX7_wanted 8 = .ok (.iconst (-1), 1) := by decide +kernel
theorem dX7_wanted_9 : decode cX7_wanted 9 = .ok (.goto 33, 3) := by decide +kernel
theorem dX7_wanted_12 : decode cX7_wanted 12 = .ok (.aload_n 0, 1) := by decide +kernel
theorem dX7_wanted_13 : decode cX7_wanted 13 = .ok (.getfield 59, 3) := by decide +kernel
theorem dX7_wanted_16 : decode cX7_wanted 16 = .ok (.iload_n 1, 1) := by decide +kernel
theorem dX7_wanted_17 : decode cX7_wanted 17 = .ok (.iaload, 1) := by decide +kernel
theorem dX7_wanted_18 : decode cX7_wanted 18 = .ok (.iconst 2, 1) := by decide +kernel
theorem dX7_wanted_19 : decode cX7_wanted 19 = .ok (.if_icmp .ne 8, 3) := by decide +kernel
theorem dX7_wanted_22 : decode cX7_wanted 22 = .ok (.bipush (-2), 2) := by decide +kernel
theorem dX7_wanted_24 : decode cX7_wanted 24 = .ok (.goto 18, 3) := by decide +kernel
theorem dX7_wanted_27 : decode cX7_wanted 27 = .ok (.aload_n 0, 1) := by decide +kernel
theorem dX7_wanted_28 : decode cX7_wanted 28 = .ok (.getfield 59, 3) := by decide +kernel
theorem dX7_wanted_31 : decode cX7_wanted 31 = .ok (.iload_n 1, 1) := by decide +kernel
theorem dX7_wanted_32 : decode cX7_wanted 32 = .ok (.iaload, 1) := by decide +kernel
theorem dX7_wanted_33 : decode cX7_wanted 33 = .ok (.ifCond .ne 8, 3) := by decide +kernel
theorem dX7_wanted_36 : decode cX7_wanted 36 = .ok (.bipush (-3), 2) := by decide +kernel
theorem dX7_wanted_38 : decode cX7_wanted 38 = .ok (.goto 4, 3) := by decide +kernel
theorem dX7_wanted_41 : decode cX7_wanted 41 = .ok (.iconst 0, 1) := by decide +kernel
theorem dX7_wanted_42 : decode cX7_wanted 42 = .ok (.ireturn, 1) := by decide +kernel
theorem dX7_intAt_0 : decode cX7_intAt 0 = .ok (.aload_n 0, 1) := by decide +kernel
theorem dX7_intAt_1 : decode cX7_intAt 1 = .ok (.getfield 71, 3) := by decide +kernel
theorem dX7_intAt_4 : decode cX7_intAt 4 = .ok (.sipush 160, 3) := by decide +kernel
theorem dX7_intAt_7 : decode cX7_intAt 7 = .ok (.iload_n 1, 1) := by decide +kernel
theorem dX7_intAt_8 : decode cX7_intAt 8 = .ok (.imul, 1) := by decide +kernel
theorem dX7_intAt_9 : decode cX7_intAt 9 = .ok (.iload_n 2, 1) := by decide +kernel
theorem dX7_intAt_10 : decode cX7_intAt 10 = .ok (.iadd, 1) := by decide +kernel
theorem dX7_intAt_11 : decode cX7_intAt 11 = .ok (.laload, 1) := by decide +kernel
theorem dX7_intAt_12 : decode cX7_intAt 12 = .ok (.l2i, 1) := by decide +kernel
theorem dX7_intAt_13 : decode cX7_intAt 13 = .ok (.ireturn, 1) := by decide +kernel
theorem dX7_addsShop_0 : decode cX7_addsShop 0 = .ok (.aload_n 0, 1) := by decide +kernel
theorem dX7_addsShop_1 : decode cX7_addsShop 1 = .ok (.getfield 26, 3) := by decide +kernel
theorem dX7_addsShop_4 : decode cX7_addsShop 4 = .ok (.aload_n 0, 1) := by decide +kernel
theorem dX7_addsShop_5 : decode cX7_addsShop 5 = .ok (.getfield 114, 3) := by decide +kernel
theorem dX7_addsShop_8 : decode cX7_addsShop 8 = .ok (.iload_n 1, 1) := by decide +kernel
theorem dX7_addsShop_9 : decode cX7_addsShop 9 = .ok (.iastore, 1) := by decide +kernel
theorem dX7_addsShop_10 : decode cX7_addsShop 10 = .ok (.aload_n 0, 1) := by decide +kernel
theorem dX7_addsShop_11 : decode cX7_addsShop 11 = .ok (.getfield 29, 3) := by decide +kernel
theorem dX7_addsShop_14 : decode cX7_addsShop 14 = .ok (.aload_n 0, 1) := by decide +kernel
theorem dX7_addsShop_15 : decode cX7_addsShop 15 = .ok (.getfield 114, 3) := by decide +kernel
theorem dX7_addsShop_18 : decode cX7_addsShop 18 = .ok (.iload_n 2, 1) := by decide +kernel
theorem dX7_addsShop_19 : decode cX7_addsShop 19 = .ok (.iastore, 1) := by decide +kernel
theorem dX7_addsShop_20 : decode cX7_addsShop 20 = .ok (.aload_n 0, 1) := by decide +kernel
theorem dX7_addsShop_21 : decode cX7_addsShop 21 = .ok (.getfield 32, 3) := by decide +kernel
theorem dX7_addsShop_24 : decode cX7_addsShop 24 = .ok (.aload_n 0, 1) := by decide +kernel
theorem dX7_addsShop_25 : decode cX7_addsShop 25 = .ok (.getfield 114, 3) := by decide +kernel
theorem dX7_addsShop_28 : decode cX7_addsShop 28 = .ok (.iload_n 3, 1) := by decide +kernel
theorem dX7_addsShop_29 : decode cX7_addsShop 29 = .ok (.iastore, 1) := by decide +kernel
theorem dX7_addsShop_30 : decode cX7_addsShop 30 = .ok (.aload_n 0, 1) := by decide +kernel
theorem dX7_addsShop_31 : decode cX7_addsShop 31 = .ok (.getfield 35, 3) := by decide +kernel
theorem dX7_addsShop_34 : decode cX7_addsShop 34 = .ok (.aload_n 0, 1) := by decide +kernel
theorem dX7_addsShop_35 : decode cX7_addsShop 35 = .ok (.getfield 114, 3) := by decide +kernel
theorem dX7_addsShop_38 : decode cX7_addsShop 38 = .ok (.iconst 0, 1) := by decide +kernel
theorem dX7_addsShop_39 : decode cX7_addsShop 39 = .ok (.iastore, 1) := by decide +kernel
theorem dX7_addsShop_40 : decode cX7_addsShop 40 = .ok (.aload_n 0, 1) := by decide +kernel
theorem dX7_addsShop_41 : decode cX7_addsShop 41 = .ok (.getfield 38, 3) := by decide +kernel
theorem dX7_addsShop_44 : decode cX7_addsShop 44 = .ok (.aload_n 0, 1) := by decide +kernel
theorem dX7_addsShop_45 : decode cX7_addsShop 45 = .ok (.getfield 114, 3) := by decide +kernel
theorem dX7_addsShop_48 : decode cX7_addsShop 48 = .ok (.iconst 0, 1) := by decide +kernel
theorem dX7_addsShop_49 : decode cX7_addsShop 49 = .ok (.iastore, 1) := by decide +kernel
theorem dX7_addsShop_50 : decode cX7_addsShop 50 = .ok (.aload_n 0, 1) := by decide +kernel
theorem dX7_addsShop_51 : decode cX7_addsShop 51 = .ok (.dup, 1) := by decide +kernel
theorem dX7_addsShop_52 : decode cX7_addsShop 52 = .ok (.getfield 114, 3) := by decide +kernel
theorem dX7_addsShop_55 : decode cX7_addsShop 55 = .ok (.dup_x1, 1) := by decide +kernel
theorem dX7_addsShop_56 : decode cX7_addsShop 56 = .ok (.iconst 1, 1) := by decide +kernel
theorem dX7_addsShop_57 : decode cX7_addsShop 57 = .ok (.iadd, 1) := by decide +kernel
theorem dX7_addsShop_58 : decode cX7_addsShop 58 = .ok (.putfield 114, 3) := by decide +kernel
theorem dX7_addsShop_61 : decode cX7_addsShop 61 = .ok (.ireturn, 1) := by decide +kernel
theorem dX7_addsChild_0 : decode cX7_addsChild 0 = .ok (.aload_n 0, 1) := by decide +kernel
theorem dX7_addsChild_1 : decode cX7_addsChild 1 = .ok (.getfield 41, 3) := by decide +kernel
theorem dX7_addsChild_4 : decode cX7_addsChild 4 = .ok (.aload_n 0, 1) := by decide +kernel
theorem dX7_addsChild_5 : decode cX7_addsChild 5 = .ok (.getfield 117, 3) := by decide +kernel
theorem dX7_addsChild_8 : decode cX7_addsChild 8 = .ok (.iload_n 1, 1) := by decide +kernel
theorem dX7_addsChild_9 : decode cX7_addsChild 9 = .ok (.iastore, 1) := by decide +kernel
theorem dX7_addsChild_10 : decode cX7_addsChild 10 = .ok (.aload_n 0, 1) := by decide +kernel
theorem dX7_addsChild_11 : decode cX7_addsChild 11 = .ok (.getfield 44, 3) := by decide +kernel
theorem dX7_addsChild_14 : decode cX7_addsChild 14 = .ok (.aload_n 0, 1) := by decide +kernel
theorem dX7_addsChild_15 : decode cX7_addsChild 15 = .ok (.getfield 117, 3) := by decide +kernel
theorem dX7_addsChild_18 : decode cX7_addsChild 18 = .ok (.iload_n 2, 1) := by decide +kernel
theorem dX7_addsChild_19 : decode cX7_addsChild 19 = .ok (.iastore, 1) := by decide +kernel
theorem dX7_addsChild_20 : decode cX7_addsChild 20 = .ok (.aload_n 0, 1) := by decide +kernel
theorem dX7_addsChild_21 : decode cX7_addsChild 21 = .ok (.getfield 47, 3) := by decide +kernel
theorem dX7_addsChild_24 : decode cX7_addsChild 24 = .ok (.aload_n 0, 1) := by decide +kernel
theorem dX7_addsChild_25 : decode cX7_addsChild 25 = .ok (.getfield 117, 3) := by decide +kernel
theorem dX7_addsChild_28 : decode cX7_addsChild 28 = .ok (.iconst 0, 1) := by decide +kernel
theorem dX7_addsChild_29 : decode cX7_addsChild 29 = .ok (.iastore, 1) := by decide +kernel
theorem dX7_addsChild_30 : decode cX7_addsChild 30 = .ok (.aload_n 0, 1) := by decide +kernel
theorem dX7_addsChild_31 : decode cX7_addsChild 31 = .ok (.getfield 50, 3) := by decide +kernel
theorem dX7_addsChild_34 : decode cX7_addsChild 34 = .ok (.aload_n 0, 1) := by decide +kernel
theorem dX7_addsChild_35 : decode cX7_addsChild 35 = .ok (.getfield 117, 3) := by decide +kernel
theorem dX7_addsChild_38 : decode cX7_addsChild 38 = .ok (.iconst 0, 1) := by decide +kernel
theorem dX7_addsChild_39 : decode cX7_addsChild 39 = .ok (.iastore, 1) := by decide +kernel
theorem dX7_addsChild_40 : decode cX7_addsChild 40 = .ok (.aload_n 0, 1) := by decide +kernel
theorem dX7_addsChild_41 : decode cX7_addsChild 41 = .ok (.getfield 53, 3) := by decide +kernel
theorem dX7_addsChild_44 : decode cX7_addsChild 44 = .ok (.aload_n 0, 1) := by decide +kernel
theorem dX7_addsChild_45 : decode cX7_addsChild 45 = .ok (.getfield 117, 3) := by decide +kernel
theorem dX7_addsChild_48 : decode cX7_addsChild 48 = .ok (.iconst 0, 1) := by decide +kernel
theorem dX7_addsChild_49 : decode cX7_addsChild 49 = .ok (.iastore, 1) := by decide +kernel
theorem dX7_addsChild_50 : decode cX7_addsChild 50 = .ok (.aload_n 0, 1) := by decide +kernel
theorem dX7_addsChild_51 : decode cX7_addsChild 51 = .ok (.getfield 56, 3) := by decide +kernel
theorem dX7_addsChild_54 : decode cX7_addsChild 54 = .ok (.aload_n 0, 1) := by decide +kernel
theorem dX7_addsChild_55 : decode cX7_addsChild 55 = .ok (.getfield 117, 3) := by decide +kernel
theorem dX7_addsChild_58 : decode cX7_addsChild 58 = .ok (.iconst (-1), 1) := by decide +kernel
theorem dX7_addsChild_59 : decode cX7_addsChild 59 = .ok (.iastore, 1) := by decide +kernel
theorem dX7_addsChild_60 : decode cX7_addsChild 60 = .ok (.aload_n 0, 1) := by decide +kernel
theorem dX7_addsChild_61 : decode cX7_addsChild 61 = .ok (.dup, 1) := by decide +kernel
theorem dX7_addsChild_62 : decode cX7_addsChild 62 = .ok (.getfield 117, 3) := by decide +kernel
theorem dX7_addsChild_65 : decode cX7_addsChild 65 = .ok (.dup_x1, 1) := by decide +kernel
theorem dX7_addsChild_66 : decode cX7_addsChild 66 = .ok (.iconst 1, 1) := by decide +kernel
theorem dX7_addsChild_67 : decode cX7_addsChild 67 = .ok (.iadd, 1) := by decide +kernel
theorem dX7_addsChild_68 : decode cX7_addsChild 68 = .ok (.putfield 117, 3) := by decide +kernel
theorem dX7_addsChild_71 : decode cX7_addsChild 71 = .ok (.ireturn, 1) := by decide +kernel
theorem dX7_shop_0 : decode cX7_shop 0 = .ok (.iload_n 1, 1) := by decide +kernel
theorem dX7_shop_1 : decode cX7_shop 1 = .ok (.ifCond .lt 9, 3) := by decide +kernel
theorem dX7_shop_4 : decode cX7_shop 4 = .ok (.iload_n 1, 1) := by decide +kernel
theorem dX7_shop_5 : decode cX7_shop 5 = .ok (.bipush 6, 2) := by decide +kernel
theorem dX7_shop_7 : decode cX7_shop 7 = .ok (.if_icmp .le 9, 3) := by decide +kernel
theorem dX7_shop_10 : decode cX7_shop 10 = .ok (.aload_n 0, 1) := by decide +kernel
theorem dX7_shop_11 : decode cX7_shop 11 = .ok (.iconst (-1), 1) := by decide +kernel
theorem dX7_shop_12 : decode cX7_shop 12 = .ok (.invokevirtual 124, 3) := by decide +kernel
theorem dX7_shop_15 : decode cX7_shop 15 = .ok (.ireturn, 1) := by decide +kernel
theorem dX7_shop_16 : decode cX7_shop 16 = .ok (.iload_n 2, 1) := by decide +kernel
theorem dX7_shop_17 : decode cX7_shop 17 = .ok (.ifCond .lt 21, 3) := by decide +kernel
theorem dX7_shop_20 : decode cX7_shop 20 = .ok (.iload_n 2, 1) := by decide +kernel
theorem dX7_shop_21 : decode cX7_shop 21 = .ok (.bipush 9, 2) := by decide +kernel
theorem dX7_shop_23 : decode cX7_shop 23 = .ok (.if_icmp .gt 15, 3) := by decide +kernel
theorem dX7_shop_26 : decode cX7_shop 26 = .ok (.iload_n 3, 1) := by decide +kernel
theorem dX7_shop_27 : decode cX7_shop 27 = .ok (.iconst 1, 1) := by decide +kernel
theorem dX7_shop_28 : decode cX7_shop 28 = .ok (.if_icmp .lt 10, 3) := by decide +kernel
theorem dX7_shop_31 : decode cX7_shop 31 = .ok (.iload_n 3, 1) := by decide +kernel
theorem dX7_shop_32 : decode cX7_shop 32 = .ok (.sipush 999, 3) := by decide +kernel
theorem dX7_shop_35 : decode cX7_shop 35 = .ok (.if_icmp .le 10, 3) := by decide +kernel
theorem dX7_shop_38 : decode cX7_shop 38 = .ok (.aload_n 0, 1) := by decide +kernel
theorem dX7_shop_39 : decode cX7_shop 39 = .ok (.bipush (-6), 2) := by decide +kernel
theorem dX7_shop_41 : decode cX7_shop 41 = .ok (.invokevirtual 124, 3) := by decide +kernel
theorem dX7_shop_44 : decode cX7_shop 44 = .ok (.ireturn, 1) := by decide +kernel
theorem dX7_shop_45 : decode cX7_shop 45 = .ok (.aload_n 0, 1) := by decide +kernel
theorem dX7_shop_46 : decode cX7_shop 46 = .ok (.getfield 114, 3) := by decide +kernel
theorem dX7_shop_49 : decode cX7_shop 49 = .ok (.bipush 6, 2) := by decide +kernel
theorem dX7_shop_51 : decode cX7_shop 51 = .ok (.if_icmp .ne 12, 3) := by decide +kernel
theorem dX7_shop_54 : decode cX7_shop 54 = .ok (.aload_n 0, 1) := by decide +kernel
theorem dX7_shop_55 : decode cX7_shop 55 = .ok (.bipush (-7), 2) := by decide +kernel
theorem dX7_shop_57 : decode cX7_shop 57 = .ok (.invokevirtual 124, 3) := by decide +kernel
theorem dX7_shop_60 : decode cX7_shop 60 = .ok (.goto 10, 3) := by decide +kernel
theorem dX7_shop_63 : decode cX7_shop 63 = .ok (.aload_n 0, 1) := by decide +kernel
theorem dX7_shop_64 : decode cX7_shop 64 = .ok (.iload_n 1, 1) := by decide +kernel
theorem dX7_shop_65 : decode cX7_shop 65 = .ok (.iload_n 2, 1) := by decide +kernel
theorem dX7_shop_66 : decode cX7_shop 66 = .ok (.iload_n 3, 1) := by decide +kernel
theorem dX7_shop_67 : decode cX7_shop 67 = .ok (.invokevirtual 134, 3) := by decide +kernel
theorem dX7_shop_70 : decode cX7_shop 70 = .ok (.ireturn, 1) := by decide +kernel
theorem dX7_child_0 : decode cX7_child 0 = .ok (.iload_n 1, 1) := by decide +kernel
theorem dX7_child_1 : decode cX7_child 1 = .ok (.iconst 1, 1) := by decide +kernel
theorem dX7_child_2 : decode cX7_child 2 = .ok (.if_icmp .lt 20, 3) := by decide +kernel
theorem dX7_child_5 : decode cX7_child 5 = .ok (.iload_n 1, 1) := by decide +kernel
theorem dX7_child_6 : decode cX7_child 6 = .ok (.bipush 99, 2) := by decide +kernel
theorem dX7_child_8 : decode cX7_child 8 = .ok (.if_icmp .gt 14, 3) := by decide +kernel
theorem dX7_child_11 : decode cX7_child 11 = .ok (.iload_n 2, 1) := by decide +kernel
theorem dX7_child_12 : decode cX7_child 12 = .ok (.ifCond .lt 10, 3) := by decide +kernel
theorem dX7_child_15 : decode cX7_child 15 = .ok (.iload_n 2, 1) := by decide +kernel
theorem dX7_child_16 : decode cX7_child 16 = .ok (.sipush 9999, 3) := by decide +kernel
theorem dX7_child_19 : decode cX7_child 19 = .ok (.if_icmp .le 10, 3) := by decide +kernel
theorem dX7_child_22 : decode cX7_child 22 = .ok (.aload_n 0, 1) := by decide +kernel
theorem dX7_child_23 : decode cX7_child 23 = .ok (.bipush (-6), 2) := by decide +kernel
theorem dX7_child_25 : decode cX7_child 25 = .ok (.invokevirtual 124, 3) := by decide +kernel
theorem dX7_child_28 : decode cX7_child 28 = .ok (.ireturn, 1) := by decide +kernel
theorem dX7_child_29 : decode cX7_child 29 = .ok (.aload_n 0, 1) := by decide +kernel
theorem dX7_child_30 : decode cX7_child 30 = .ok (.getfield 117, 3) := by decide +kernel
theorem dX7_child_33 : decode cX7_child 33 = .ok (.bipush 6, 2) := by decide +kernel
theorem dX7_child_35 : decode cX7_child 35 = .ok (.if_icmp .ne 12, 3) := by decide +kernel
theorem dX7_child_38 : decode cX7_child 38 = .ok (.aload_n 0, 1) := by decide +kernel
theorem dX7_child_39 : decode cX7_child 39 = .ok (.bipush (-7), 2) := by decide +kernel
theorem dX7_child_41 : decode cX7_child 41 = .ok (.invokevirtual 124, 3) := by decide +kernel
theorem dX7_child_44 : decode cX7_child 44 = .ok (.goto 9, 3) := by decide +kernel
theorem dX7_child_47 : decode cX7_child 47 = .ok (.aload_n 0, 1) := by decide +kernel
theorem dX7_child_48 : decode cX7_child 48 = .ok (.iload_n 1, 1) := by decide +kernel
theorem dX7_child_49 : decode cX7_child 49 = .ok (.iload_n 2, 1) := by decide +kernel
theorem dX7_child_50 : decode cX7_child 50 = .ok (.invokevirtual 138, 3) := by decide +kernel
theorem dX7_child_53 : decode cX7_child 53 = .ok (.ireturn, 1) := by decide +kernel
theorem dX7_shopOf_0 : decode cX7_shopOf 0 = .ok (.aload_n 0, 1) := by decide +kernel
theorem dX7_shopOf_1 : decode cX7_shopOf 1 = .ok (.iload_n 1, 1) := by decide +kernel
theorem dX7_shopOf_2 : decode cX7_shopOf 2 = .ok (.invokevirtual 128, 3) := by decide +kernel
theorem dX7_shopOf_5 : decode cX7_shopOf 5 = .ok (.ifCond .ne 10, 3) := by decide +kernel
theorem dX7_shopOf_8 : decode cX7_shopOf 8 = .ok (.aload_n 0, 1) := by decide +kernel
theorem dX7_shopOf_9 : decode cX7_shopOf 9 = .ok (.bipush (-5), 2) := by decide +kernel
theorem dX7_shopOf_11 : decode cX7_shopOf 11 = .ok (.invokevirtual 124, 3) := by decide +kernel
theorem dX7_shopOf_14 : decode cX7_shopOf 14 = .ok (.ireturn, 1) := by decide +kernel
theorem dX7_shopOf_15 : decode cX7_shopOf 15 = .ok (.iload_n 2, 1) := by decide +kernel
theorem dX7_shopOf_16 : decode cX7_shopOf 16 = .ok (.tableswitch 81 0 5 #[40, 47, 54, 61, 68, 75], 40) := by decide +kernel
theorem dX7_shopOf_56 : decode cX7_shopOf 56 = .ok (.aload_n 0, 1) := by decide +kernel
theorem dX7_shopOf_57 : decode cX7_shopOf 57 = .ok (.getfield 26, 3) := by decide +kernel
theorem dX7_shopOf_60 : decode cX7_shopOf 60 = .ok (.iload_n 1, 1) := by decide +kernel
theorem dX7_shopOf_61 : decode cX7_shopOf 61 = .ok (.iaload, 1) := by decide +kernel
theorem dX7_shopOf_62 : decode cX7_shopOf 62 = .ok (.ireturn, 1) := by decide +kernel
theorem dX7_shopOf_63 : decode cX7_shopOf 63 = .ok (.aload_n 0, 1) := by decide +kernel
theorem dX7_shopOf_64 : decode cX7_shopOf 64 = .ok (.getfield 29, 3) := by decide +kernel
theorem dX7_shopOf_67 : decode cX7_shopOf 67 = .ok (.iload_n 1, 1) := by decide +kernel
theorem dX7_shopOf_68 : decode cX7_shopOf 68 = .ok (.iaload, 1) := by decide +kernel
theorem dX7_shopOf_69 : decode cX7_shopOf 69 = .ok (.ireturn, 1) := by decide +kernel
theorem dX7_shopOf_70 : decode cX7_shopOf 70 = .ok (.aload_n 0, 1) := by decide +kernel
theorem dX7_shopOf_71 : decode cX7_shopOf 71 = .ok (.getfield 32, 3) := by decide +kernel
theorem dX7_shopOf_74 : decode cX7_shopOf 74 = .ok (.iload_n 1, 1) := by decide +kernel
theorem dX7_shopOf_75 : decode cX7_shopOf 75 = .ok (.iaload, 1) := by decide +kernel
theorem dX7_shopOf_76 : decode cX7_shopOf 76 = .ok (.ireturn, 1) := by decide +kernel
theorem dX7_shopOf_77 : decode cX7_shopOf 77 = .ok (.aload_n 0, 1) := by decide +kernel
theorem dX7_shopOf_78 : decode cX7_shopOf 78 = .ok (.getfield 35, 3) := by decide +kernel
theorem dX7_shopOf_81 : decode cX7_shopOf 81 = .ok (.iload_n 1, 1) := by decide +kernel
theorem dX7_shopOf_82 : decode cX7_shopOf 82 = .ok (.iaload, 1) := by decide +kernel
theorem dX7_shopOf_83 : decode cX7_shopOf 83 = .ok (.ireturn, 1) := by decide +kernel
theorem dX7_shopOf_84 : decode cX7_shopOf 84 = .ok (.aload_n 0, 1) := by decide +kernel
theorem dX7_shopOf_85 : decode cX7_shopOf 85 = .ok (.getfield 38, 3) := by decide +kernel
theorem dX7_shopOf_88 : decode cX7_shopOf 88 = .ok (.iload_n 1, 1) := by decide +kernel
theorem dX7_shopOf_89 : decode cX7_shopOf 89 = .ok (.iaload, 1) := by decide +kernel
theorem dX7_shopOf_90 : decode cX7_shopOf 90 = .ok (.ireturn, 1) := by decide +kernel
theorem dX7_shopOf_91 : decode cX7_shopOf 91 = .ok (.aload_n 0, 1) := by decide +kernel
theorem dX7_shopOf_92 : decode cX7_shopOf 92 = .ok (.iload_n 1, 1) := by decide +kernel
theorem dX7_shopOf_93 : decode cX7_shopOf 93 = .ok (.invokevirtual 131, 3) := by decide +kernel
theorem dX7_shopOf_96 : decode cX7_shopOf 96 = .ok (.ireturn, 1) := by decide +kernel
theorem dX7_shopOf_97 : decode cX7_shopOf 97 = .ok (.aload_n 0, 1) := by decide +kernel
theorem dX7_shopOf_98 : decode cX7_shopOf 98 = .ok (.bipush (-5), 2) := by decide +kernel
theorem dX7_shopOf_100 : decode cX7_shopOf 100 = .ok (.invokevirtual 124, 3) := by decide +kernel
theorem dX7_shopOf_103 : decode cX7_shopOf 103 = .ok (.ireturn, 1) := by decide +kernel
theorem dX7_childOf_0 : decode cX7_childOf 0 = .ok (.aload_n 0, 1) := by decide +kernel
theorem dX7_childOf_1 : decode cX7_childOf 1 = .ok (.iload_n 1, 1) := by decide +kernel
theorem dX7_childOf_2 : decode cX7_childOf 2 = .ok (.invokevirtual 142, 3) := by decide +kernel
theorem dX7_childOf_5 : decode cX7_childOf 5 = .ok (.ifCond .ne 10, 3) := by decide +kernel
theorem dX7_childOf_8 : decode cX7_childOf 8 = .ok (.aload_n 0, 1) := by decide +kernel
theorem dX7_childOf_9 : decode cX7_childOf 9 = .ok (.bipush (-5), 2) := by decide +kernel
theorem dX7_childOf_11 : decode cX7_childOf 11 = .ok (.invokevirtual 124, 3) := by decide +kernel
theorem dX7_childOf_14 : decode cX7_childOf 14 = .ok (.ireturn, 1) := by decide +kernel
theorem dX7_childOf_15 : decode cX7_childOf 15 = .ok (.iload_n 2, 1) := by decide +kernel
theorem dX7_childOf_16 : decode cX7_childOf 16 = .ok (.tableswitch 84 0 5 #[40, 47, 54, 61, 68, 75], 40) := by decide +kernel
theorem dX7_childOf_56 : decode cX7_childOf 56 = .ok (.aload_n 0, 1) := by decide +kernel
theorem dX7_childOf_57 : decode cX7_childOf 57 = .ok (.getfield 41, 3) := by decide +kernel
theorem dX7_childOf_60 : decode cX7_childOf 60 = .ok (.iload_n 1, 1) := by decide +kernel
theorem dX7_childOf_61 : decode cX7_childOf 61 = .ok (.iaload, 1) := by decide +kernel
theorem dX7_childOf_62 : decode cX7_childOf 62 = .ok (.ireturn, 1) := by decide +kernel
theorem dX7_childOf_63 : decode cX7_childOf 63 = .ok (.aload_n 0, 1) := by decide +kernel
theorem dX7_childOf_64 : decode cX7_childOf 64 = .ok (.getfield 44, 3) := by decide +kernel
theorem dX7_childOf_67 : decode cX7_childOf 67 = .ok (.iload_n 1, 1) := by decide +kernel
theorem dX7_childOf_68 : decode cX7_childOf 68 = .ok (.iaload, 1) := by decide +kernel
theorem dX7_childOf_69 : decode cX7_childOf 69 = .ok (.ireturn, 1) := by decide +kernel
theorem dX7_childOf_70 : decode cX7_childOf 70 = .ok (.aload_n 0, 1) := by decide +kernel
theorem dX7_childOf_71 : decode cX7_childOf 71 = .ok (.getfield 47, 3) := by decide +kernel
theorem dX7_childOf_74 : decode cX7_childOf 74 = .ok (.iload_n 1, 1) := by decide +kernel
theorem dX7_childOf_75 : decode cX7_childOf 75 = .ok (.iaload, 1) := by decide +kernel
theorem dX7_childOf_76 : decode cX7_childOf 76 = .ok (.ireturn, 1) := by decide +kernel
theorem dX7_childOf_77 : decode cX7_childOf 77 = .ok (.aload_n 0, 1) := by decide +kernel
theorem dX7_childOf_78 : decode cX7_childOf 78 = .ok (.getfield 50, 3) := by decide +kernel
theorem dX7_childOf_81 : decode cX7_childOf 81 = .ok (.iload_n 1, 1) := by decide +kernel
theorem dX7_childOf_82 : decode cX7_childOf 82 = .ok (.iaload, 1) := by decide +kernel
theorem dX7_childOf_83 : decode cX7_childOf 83 = .ok (.ireturn, 1) := by decide +kernel
theorem dX7_childOf_84 : decode cX7_childOf 84 = .ok (.aload_n 0, 1) := by decide +kernel
theorem dX7_childOf_85 : decode cX7_childOf 85 = .ok (.getfield 53, 3) := by decide +kernel
theorem dX7_childOf_88 : decode cX7_childOf 88 = .ok (.iload_n 1, 1) := by decide +kernel
theorem dX7_childOf_89 : decode cX7_childOf 89 = .ok (.iaload, 1) := by decide +kernel
theorem dX7_childOf_90 : decode cX7_childOf 90 = .ok (.ireturn, 1) := by decide +kernel
theorem dX7_childOf_91 : decode cX7_childOf 91 = .ok (.aload_n 0, 1) := by decide +kernel
theorem dX7_childOf_92 : decode cX7_childOf 92 = .ok (.getfield 56, 3) := by decide +kernel
theorem dX7_childOf_95 : decode cX7_childOf 95 = .ok (.iload_n 1, 1) := by decide +kernel
theorem dX7_childOf_96 : decode cX7_childOf 96 = .ok (.iaload, 1) := by decide +kernel
theorem dX7_childOf_97 : decode cX7_childOf 97 = .ok (.iconst 1, 1) := by decide +kernel
theorem dX7_childOf_98 : decode cX7_childOf 98 = .ok (.iadd, 1) := by decide +kernel
theorem dX7_childOf_99 : decode cX7_childOf 99 = .ok (.ireturn, 1) := by decide +kernel
theorem dX7_childOf_100 : decode cX7_childOf 100 = .ok (.aload_n 0, 1) := by decide +kernel
theorem dX7_childOf_101 : decode cX7_childOf 101 = .ok (.bipush (-5), 2) := by decide +kernel
theorem dX7_childOf_103 : decode cX7_childOf 103 = .ok (.invokevirtual 124, 3) := by decide +kernel
theorem dX7_childOf_106 : decode cX7_childOf 106 = .ok (.ireturn, 1) := by decide +kernel
theorem dX7_tell_0 : decode cX7_tell 0 = .ok (.aload_n 0, 1) := by decide +kernel
theorem dX7_tell_1 : decode cX7_tell 1 = .ok (.iload_n 1, 1) := by decide +kernel
theorem dX7_tell_2 : decode cX7_tell 2 = .ok (.invokevirtual 142, 3) := by decide +kernel
theorem dX7_tell_5 : decode cX7_tell 5 = .ok (.ifCond .ne 9, 3) := by decide +kernel
theorem dX7_tell_8 : decode cX7_tell 8 = .ok (.aload_n 0, 1) := by decide +kernel
theorem dX7_tell_9 : decode cX7_tell 9 = .ok (.iconst (-1), 1) := by decide +kernel
theorem dX7_tell_10 : decode cX7_tell 10 = .ok (.invokevirtual 124, 3) := by decide +kernel
theorem dX7_tell_13 : decode cX7_tell 13 = .ok (.ireturn, 1) := by decide +kernel
theorem dX7_tell_14 : decode cX7_tell 14 = .ok (.iload_n 2, 1) := by decide +kernel
theorem dX7_tell_15 : decode cX7_tell 15 = .ok (.iconst 1, 1) := by decide +kernel
theorem dX7_tell_16 : decode cX7_tell 16 = .ok (.if_icmp .lt 29, 3) := by decide +kernel
theorem dX7_tell_19 : decode cX7_tell 19 = .ok (.iload_n 2, 1) := by decide +kernel
theorem dX7_tell_20 : decode cX7_tell 20 = .ok (.iconst 3, 1) := by decide +kernel
theorem dX7_tell_21 : decode cX7_tell 21 = .ok (.if_icmp .gt 24, 3) := by decide +kernel
theorem dX7_tell_24 : decode cX7_tell 24 = .ok (.iload_n 3, 1) := by decide +kernel
theorem dX7_tell_25 : decode cX7_tell 25 = .ok (.ifCond .lt 20, 3) := by decide +kernel
theorem dX7_tell_28 : decode cX7_tell 28 = .ok (.iload_n 3, 1) := by decide +kernel
theorem dX7_tell_29 : decode cX7_tell 29 = .ok (.iload_n 2, 1) := by decide +kernel
theorem dX7_tell_30 : decode cX7_tell 30 = .ok (.iconst 3, 1) := by decide +kernel
theorem dX7_tell_31 : decode cX7_tell 31 = .ok (.if_icmp .ne 8, 3) := by decide +kernel
theorem dX7_tell_34 : decode cX7_tell 34 = .ok (.bipush 99, 2) := by decide +kernel
theorem dX7_tell_36 : decode cX7_tell 36 = .ok (.goto 6, 3) := by decide +kernel
theorem dX7_tell_39 : decode cX7_tell 39 = .ok (.sipush 9999, 3) := by decide +kernel
theorem dX7_tell_42 : decode cX7_tell 42 = .ok (.if_icmp .le 10, 3) := by decide +kernel
theorem dX7_tell_45 : decode cX7_tell 45 = .ok (.aload_n 0, 1) := by decide +kernel
theorem dX7_tell_46 : decode cX7_tell 46 = .ok (.bipush (-6), 2) := by decide +kernel
theorem dX7_tell_48 : decode cX7_tell 48 = .ok (.invokevirtual 124, 3) := by decide +kernel
theorem dX7_tell_51 : decode cX7_tell 51 = .ok (.ireturn, 1) := by decide +kernel
theorem dX7_tell_52 : decode cX7_tell 52 = .ok (.iload_n 2, 1) := by decide +kernel
theorem dX7_tell_53 : decode cX7_tell 53 = .ok (.iconst 1, 1) := by decide +kernel
theorem dX7_tell_54 : decode cX7_tell 54 = .ok (.if_icmp .ne 12, 3) := by decide +kernel
theorem dX7_tell_57 : decode cX7_tell 57 = .ok (.aload_n 0, 1) := by decide +kernel
theorem dX7_tell_58 : decode cX7_tell 58 = .ok (.getfield 44, 3) := by decide +kernel
theorem dX7_tell_61 : decode cX7_tell 61 = .ok (.iload_n 1, 1) := by decide +kernel
theorem dX7_tell_62 : decode cX7_tell 62 = .ok (.iaload, 1) := by decide +kernel
theorem dX7_tell_63 : decode cX7_tell 63 = .ok (.goto 23, 3) := by decide +kernel
theorem dX7_tell_66 : decode cX7_tell 66 = .ok (.iload_n 2, 1) := by decide +kernel
theorem dX7_tell_67 : decode cX7_tell 67 = .ok (.iconst 2, 1) := by decide +kernel
theorem dX7_tell_68 : decode cX7_tell 68 = .ok (.if_icmp .ne 12, 3) := by decide +kernel
theorem dX7_tell_71 : decode cX7_tell 71 = .ok (.aload_n 0, 1) := by decide +kernel
theorem dX7_tell_72 : decode cX7_tell 72 = .ok (.getfield 47, 3) := by decide +kernel
theorem dX7_tell_75 : decode cX7_tell 75 = .ok (.iload_n 1, 1) := by decide +kernel
theorem dX7_tell_76 : decode cX7_tell 76 = .ok (.iaload, 1) := by decide +kernel
theorem dX7_tell_77 : decode cX7_tell 77 = .ok (.goto 9, 3) := by decide +kernel
theorem dX7_tell_80 : decode cX7_tell 80 = .ok (.aload_n 0, 1) := by decide +kernel
theorem dX7_tell_81 : decode cX7_tell 81 = .ok (.getfield 50, 3) := by decide +kernel
theorem dX7_tell_84 : decode cX7_tell 84 = .ok (.iload_n 1, 1) := by decide +kernel
theorem dX7_tell_85 : decode cX7_tell 85 = .ok (.iaload, 1) := by decide +kernel
theorem dX7_tell_86 : decode cX7_tell 86 = .ok (.istore 4, 2) := by decide +kernel
theorem dX7_tell_88 : decode cX7_tell 88 = .ok (.iload_n 2, 1) := by decide +kernel
theorem dX7_tell_89 : decode cX7_tell 89 = .ok (.iconst 1, 1) := by decide +kernel
theorem dX7_tell_90 : decode cX7_tell 90 = .ok (.if_icmp .ne 13, 3) := by decide +kernel
theorem dX7_tell_93 : decode cX7_tell 93 = .ok (.aload_n 0, 1) := by decide +kernel
theorem dX7_tell_94 : decode cX7_tell 94 = .ok (.getfield 44, 3) := by decide +kernel
theorem dX7_tell_97 : decode cX7_tell 97 = .ok (.iload_n 1, 1) := by decide +kernel
theorem dX7_tell_98 : decode cX7_tell 98 = .ok (.iload_n 3, 1) := by decide +kernel
theorem dX7_tell_99 : decode cX7_tell 99 = .ok (.iastore, 1) := by decide +kernel
theorem dX7_tell_100 : decode cX7_tell 100 = .ok (.goto 25, 3) := by decide +kernel
theorem dX7_tell_103 : decode cX7_tell 103 = .ok (.iload_n 2, 1) := by decide +kernel
theorem dX7_tell_104 : decode cX7_tell 104 = .ok (.iconst 2, 1) := by decide +kernel
theorem dX7_tell_105 : decode cX7_tell 105 = .ok (.if_icmp .ne 13, 3) := by decide +kernel
theorem dX7_tell_108 : decode cX7_tell 108 = .ok (.aload_n 0, 1) := by decide +kernel
theorem dX7_tell_109 : decode cX7_tell 109 = .ok (.getfield 47, 3) := by decide +kernel
theorem dX7_tell_112 : decode cX7_tell 112 = .ok (.iload_n 1, 1) := by decide +kernel
theorem dX7_tell_113 : decode cX7_tell 113 = .ok (.iload_n 3, 1) := by decide +kernel
theorem dX7_tell_114 : decode cX7_tell 114 = .ok (.iastore, 1) := by decide +kernel
theorem dX7_tell_115 : decode cX7_tell 115 = .ok (.goto 10, 3) := by decide +kernel
theorem dX7_tell_118 : decode cX7_tell 118 = .ok (.aload_n 0, 1) := by decide +kernel
theorem dX7_tell_119 : decode cX7_tell 119 = .ok (.getfield 50, 3) := by decide +kernel
theorem dX7_tell_122 : decode cX7_tell 122 = .ok (.iload_n 1, 1) := by decide +kernel
theorem dX7_tell_123 : decode cX7_tell 123 = .ok (.iload_n 3, 1) := by decide +kernel
theorem dX7_tell_124 : decode cX7_tell 124 = .ok (.iastore, 1) := by decide +kernel
theorem dX7_tell_125 : decode cX7_tell 125 = .ok (.iload 4, 2) := by decide +kernel
theorem dX7_tell_127 : decode cX7_tell 127 = .ok (.ireturn, 1) := by decide +kernel
theorem dX7_keeps_0 : decode cX7_keeps 0 = .ok (.aload_n 0, 1) := by decide +kernel
theorem dX7_keeps_1 : decode cX7_keeps 1 = .ok (.iload_n 1, 1) := by decide +kernel
theorem dX7_keeps_2 : decode cX7_keeps 2 = .ok (.invokevirtual 142, 3) := by decide +kernel
theorem dX7_keeps_5 : decode cX7_keeps 5 = .ok (.ifCond .eq 16, 3) := by decide +kernel
theorem dX7_keeps_8 : decode cX7_keeps 8 = .ok (.iload_n 2, 1) := by decide +kernel
theorem dX7_keeps_9 : decode cX7_keeps 9 = .ok (.iconst (-1), 1) := by decide +kernel
theorem dX7_keeps_10 : decode cX7_keeps 10 = .ok (.if_icmp .eq 17, 3) := by decide +kernel
theorem dX7_keeps_13 : decode cX7_keeps 13 = .ok (.aload_n 0, 1) := by decide +kernel
theorem dX7_keeps_14 : decode cX7_keeps 14 = .ok (.iload_n 2, 1) := by decide +kernel
theorem dX7_keeps_15 : decode cX7_keeps 15 = .ok (.invokevirtual 128, 3) := by decide +kernel
theorem dX7_keeps_18 : decode cX7_keeps 18 = .ok (.ifCond .ne 9, 3) := by decide +kernel
theorem dX7_keeps_21 : decode cX7_keeps 21 = .ok (.aload_n 0, 1) := by decide +kernel
theorem dX7_keeps_22 : decode cX7_keeps 22 = .ok (.iconst (-1), 1) := by decide +kernel
theorem dX7_keeps_23 : decode cX7_keeps 23 = .ok (.invokevirtual 145, 3) := by decide +kernel
theorem dX7_keeps_26 : decode cX7_keeps 26 = .ok (.ireturn, 1) := by decide +kernel
theorem dX7_keeps_27 : decode cX7_keeps 27 = .ok (.aload_n 0, 1) := by decide +kernel
theorem dX7_keeps_28 : decode cX7_keeps 28 = .ok (.getfield 56, 3) := by decide +kernel
theorem dX7_keeps_31 : decode cX7_keeps 31 = .ok (.iload_n 1, 1) := by decide +kernel
theorem dX7_keeps_32 : decode cX7_keeps 32 = .ok (.iaload, 1) := by decide +kernel
theorem dX7_keeps_33 : decode cX7_keeps 33 = .ok (.istore_n 3, 1) := by decide +kernel
theorem dX7_keeps_34 : decode cX7_keeps 34 = .ok (.aload_n 0, 1) := by decide +kernel
theorem dX7_keeps_35 : decode cX7_keeps 35 = .ok (.getfield 56, 3) := by decide +kernel
theorem dX7_keeps_38 : decode cX7_keeps 38 = .ok (.iload_n 1, 1) := by decide +kernel
theorem dX7_keeps_39 : decode cX7_keeps 39 = .ok (.iload_n 2, 1) := by decide +kernel
theorem dX7_keeps_40 : decode cX7_keeps 40 = .ok (.iastore, 1) := by decide +kernel
theorem dX7_keeps_41 : decode cX7_keeps 41 = .ok (.iload_n 3, 1) := by decide +kernel
theorem dX7_keeps_42 : decode cX7_keeps 42 = .ok (.ireturn, 1) := by decide +kernel
theorem dX7_ask_0 : decode cX7_ask 0 = .ok (.iload_n 1, 1) := by decide +kernel
theorem dX7_ask_1 : decode cX7_ask 1 = .ok (.ifCond .lt 28, 3) := by decide +kernel
theorem dX7_ask_4 : decode cX7_ask 4 = .ok (.iload_n 1, 1) := by decide +kernel
theorem dX7_ask_5 : decode cX7_ask 5 = .ok (.iconst 1, 1) := by decide +kernel
theorem dX7_ask_6 : decode cX7_ask 6 = .ok (.if_icmp .gt 23, 3) := by decide +kernel
theorem dX7_ask_9 : decode cX7_ask 9 = .ok (.iload_n 2, 1) := by decide +kernel
theorem dX7_ask_10 : decode cX7_ask 10 = .ok (.ifCond .lt 19, 3) := by decide +kernel
theorem dX7_ask_13 : decode cX7_ask 13 = .ok (.iload_n 2, 1) := by decide +kernel
theorem dX7_ask_14 : decode cX7_ask 14 = .ok (.iload_n 1, 1) := by decide +kernel
theorem dX7_ask_15 : decode cX7_ask 15 = .ok (.ifCond .ne 8, 3) := by decide +kernel
theorem dX7_ask_18 : decode cX7_ask 18 = .ok (.bipush 99, 2) := by decide +kernel
theorem dX7_ask_20 : decode cX7_ask 20 = .ok (.goto 6, 3) := by decide +kernel
theorem dX7_ask_23 : decode cX7_ask 23 = .ok (.sipush 9999, 3) := by decide +kernel
theorem dX7_ask_26 : decode cX7_ask 26 = .ok (.if_icmp .le 10, 3) := by decide +kernel
theorem dX7_ask_29 : decode cX7_ask 29 = .ok (.aload_n 0, 1) := by decide +kernel
theorem dX7_ask_30 : decode cX7_ask 30 = .ok (.bipush (-6), 2) := by decide +kernel
theorem dX7_ask_32 : decode cX7_ask 32 = .ok (.invokevirtual 124, 3) := by decide +kernel
theorem dX7_ask_35 : decode cX7_ask 35 = .ok (.ireturn, 1) := by decide +kernel
theorem dX7_ask_36 : decode cX7_ask 36 = .ok (.iload_n 1, 1) := by decide +kernel
theorem dX7_ask_37 : decode cX7_ask 37 = .ok (.ifCond .ne 10, 3) := by decide +kernel
theorem dX7_ask_40 : decode cX7_ask 40 = .ok (.aload_n 0, 1) := by decide +kernel
theorem dX7_ask_41 : decode cX7_ask 41 = .ok (.getfield 7, 3) := by decide +kernel
theorem dX7_ask_44 : decode cX7_ask 44 = .ok (.goto 7, 3) := by decide +kernel
theorem dX7_ask_47 : decode cX7_ask 47 = .ok (.aload_n 0, 1) := by decide +kernel
theorem dX7_ask_48 : decode cX7_ask 48 = .ok (.getfield 13, 3) := by decide +kernel
theorem dX7_ask_51 : decode cX7_ask 51 = .ok (.istore_n 3, 1) := by decide +kernel
theorem dX7_ask_52 : decode cX7_ask 52 = .ok (.iload_n 1, 1) := by decide +kernel
theorem dX7_ask_53 : decode cX7_ask 53 = .ok (.ifCond .ne 11, 3) := by decide +kernel
theorem dX7_ask_56 : decode cX7_ask 56 = .ok (.aload_n 0, 1) := by decide +kernel
theorem dX7_ask_57 : decode cX7_ask 57 = .ok (.iload_n 2, 1) := by decide +kernel
theorem dX7_ask_58 : decode cX7_ask 58 = .ok (.putfield 7, 3) := by decide +kernel
theorem dX7_ask_61 : decode cX7_ask 61 = .ok (.goto 8, 3) := by decide +kernel
theorem dX7_ask_64 : decode cX7_ask 64 = .ok (.aload_n 0, 1) := by decide +kernel
theorem dX7_ask_65 : decode cX7_ask 65 = .ok (.iload_n 2, 1) := by decide +kernel
theorem dX7_ask_66 : decode cX7_ask 66 = .ok (.putfield 13, 3) := by decide +kernel
theorem dX7_ask_69 : decode cX7_ask 69 = .ok (.iload_n 3, 1) := by decide +kernel
theorem dX7_ask_70 : decode cX7_ask 70 = .ok (.ireturn, 1) := by decide +kernel
theorem dX7_wrong_0 : decode cX7_wrong 0 = .ok (.aload_n 0, 1) := by decide +kernel
theorem dX7_wrong_1 : decode cX7_wrong 1 = .ok (.iload_n 1, 1) := by decide +kernel
theorem dX7_wrong_2 : decode cX7_wrong 2 = .ok (.putfield 148, 3) := by decide +kernel
theorem dX7_wrong_5 : decode cX7_wrong 5 = .ok (.iconst 0, 1) := by decide +kernel
theorem dX7_wrong_6 : decode cX7_wrong 6 = .ok (.ireturn, 1) := by decide +kernel
theorem dX7_stands_0 : decode cX7_stands 0 = .ok (.iconst 0, 1) := by decide +kernel
theorem dX7_stands_1 : decode cX7_stands 1 = .ok (.istore_n 2, 1) := by decide +kernel
theorem dX7_stands_2 : decode cX7_stands 2 = .ok (.iconst 0, 1) := by decide +kernel
theorem dX7_stands_3 : decode cX7_stands 3 = .ok (.istore_n 3, 1) := by decide +kernel
theorem dX7_stands_4 : decode cX7_stands 4 = .ok (.iload_n 3, 1) := by decide +kernel
theorem dX7_stands_5 : decode cX7_stands 5 = .ok (.iload_n 1, 1) := by decide +kernel
theorem dX7_stands_6 : decode cX7_stands 6 = .ok (.if_icmp .ge 26, 3) := by decide +kernel
theorem dX7_stands_9 : decode cX7_stands 9 = .ok (.iload_n 3, 1) := by decide +kernel
theorem dX7_stands_10 : decode cX7_stands 10 = .ok (.aload_n 0, 1) := by decide +kernel
theorem dX7_stands_11 : decode cX7_stands 11 = .ok (.getfield 78, 3) := by decide +kernel
theorem dX7_stands_14 : decode cX7_stands 14 = .ok (.iload_n 2, 1) := by decide +kernel
theorem dX7_stands_15 : decode cX7_stands 15 = .ok (.iaload, 1) := by decide +kernel
theorem dX7_stands_16 : decode cX7_stands 16 = .ok (.ifCond .ne 7, 3) := by decide +kernel
theorem dX7_stands_19 : decode cX7_stands 19 = .ok (.iconst 1, 1) := by decide +kernel
theorem dX7_stands_20 : decode cX7_stands 20 = .ok (.goto 4, 3) := by decide +kernel
theorem dX7_stands_23 : decode cX7_stands 23 = .ok (.iconst 0, 1) := by decide +kernel
theorem dX7_stands_24 : decode cX7_stands 24 = .ok (.iadd, 1) := by decide +kernel
theorem dX7_stands_25 : decode cX7_stands 25 = .ok (.istore_n 3, 1) := by decide +kernel
theorem dX7_stands_26 : decode cX7_stands 26 = .ok (.iinc 2 1, 3) := by decide +kernel
theorem dX7_stands_29 : decode cX7_stands 29 = .ok (.goto (-25), 3) := by decide +kernel
theorem dX7_stands_32 : decode cX7_stands 32 = .ok (.aload_n 0, 1) := by decide +kernel
theorem dX7_stands_33 : decode cX7_stands 33 = .ok (.getfield 151, 3) := by decide +kernel
theorem dX7_stands_36 : decode cX7_stands 36 = .ok (.istore_n 3, 1) := by decide +kernel
theorem dX7_stands_37 : decode cX7_stands 37 = .ok (.aload_n 0, 1) := by decide +kernel
theorem dX7_stands_38 : decode cX7_stands 38 = .ok (.getfield 78, 3) := by decide +kernel
theorem dX7_stands_41 : decode cX7_stands 41 = .ok (.iload_n 2, 1) := by decide +kernel
theorem dX7_stands_42 : decode cX7_stands 42 = .ok (.iaload, 1) := by decide +kernel
theorem dX7_stands_43 : decode cX7_stands 43 = .ok (.bipush 32, 2) := by decide +kernel
theorem dX7_stands_45 : decode cX7_stands 45 = .ok (.if_icmp .le 41, 3) := by decide +kernel
theorem dX7_stands_48 : decode cX7_stands 48 = .ok (.iload_n 3, 1) := by decide +kernel
theorem dX7_stands_49 : decode cX7_stands 49 = .ok (.aload_n 0, 1) := by decide +kernel
theorem dX7_stands_50 : decode cX7_stands 50 = .ok (.getfield 154, 3) := by decide +kernel
theorem dX7_stands_53 : decode cX7_stands 53 = .ok (.if_icmp .ge 33, 3) := by decide +kernel
theorem dX7_stands_56 : decode cX7_stands 56 = .ok (.aload_n 0, 1) := by decide +kernel
theorem dX7_stands_57 : decode cX7_stands 57 = .ok (.getfield 71, 3) := by decide +kernel
theorem dX7_stands_60 : decode cX7_stands 60 = .ok (.aload_n 0, 1) := by decide +kernel
theorem dX7_stands_61 : decode cX7_stands 61 = .ok (.getfield 157, 3) := by decide +kernel
theorem dX7_stands_64 : decode cX7_stands 64 = .ok (.iload_n 3, 1) := by decide +kernel
theorem dX7_stands_65 : decode cX7_stands 65 = .ok (.iadd, 1) := by decide +kernel
theorem dX7_stands_66 : decode cX7_stands 66 = .ok (.laload, 1) := by decide +kernel
theorem dX7_stands_67 : decode cX7_stands 67 = .ok (.l2i, 1) := by decide +kernel
theorem dX7_stands_68 : decode cX7_stands 68 = .ok (.aload_n 0, 1) := by decide +kernel
theorem dX7_stands_69 : decode cX7_stands 69 = .ok (.getfield 78, 3) := by decide +kernel
theorem dX7_stands_72 : decode cX7_stands 72 = .ok (.iload_n 2, 1) := by decide +kernel
theorem dX7_stands_73 : decode cX7_stands 73 = .ok (.iaload, 1) := by decide +kernel
theorem dX7_stands_74 : decode cX7_stands 74 = .ok (.if_icmp .ne 12, 3) := by decide +kernel
theorem dX7_stands_77 : decode cX7_stands 77 = .ok (.iinc 3 1, 3) := by decide +kernel
theorem dX7_stands_80 : decode cX7_stands 80 = .ok (.iinc 2 1, 3) := by decide +kernel
theorem dX7_stands_83 : decode cX7_stands 83 = .ok (.goto (-46), 3) := by decide +kernel
theorem dX7_stands_86 : decode cX7_stands 86 = .ok (.aload_n 0, 1) := by decide +kernel
theorem dX7_stands_87 : decode cX7_stands 87 = .ok (.getfield 78, 3) := by decide +kernel
theorem dX7_stands_90 : decode cX7_stands 90 = .ok (.iload_n 2, 1) := by decide +kernel
theorem dX7_stands_91 : decode cX7_stands 91 = .ok (.iaload, 1) := by decide +kernel
theorem dX7_stands_92 : decode cX7_stands 92 = .ok (.bipush 32, 2) := by decide +kernel
theorem dX7_stands_94 : decode cX7_stands 94 = .ok (.if_icmp .gt 7, 3) := by decide +kernel
theorem dX7_stands_97 : decode cX7_stands 97 = .ok (.iconst 1, 1) := by decide +kernel
theorem dX7_stands_98 : decode cX7_stands 98 = .ok (.goto 4, 3) := by decide +kernel
theorem dX7_stands_101 : decode cX7_stands 101 = .ok (.iconst 0, 1) := by decide +kernel
theorem dX7_stands_102 : decode cX7_stands 102 = .ok (.ireturn, 1) := by decide +kernel
theorem dX7_word_0 : decode cX7_word 0 = .ok (.iconst 0, 1) := by decide +kernel
theorem dX7_word_1 : decode cX7_word 1 = .ok (.istore_n 1, 1) := by decide +kernel
theorem dX7_word_2 : decode cX7_word 2 = .ok (.aload_n 0, 1) := by decide +kernel
theorem dX7_word_3 : decode cX7_word 3 = .ok (.getfield 151, 3) := by decide +kernel
theorem dX7_word_6 : decode cX7_word 6 = .ok (.istore_n 2, 1) := by decide +kernel
theorem dX7_word_7 : decode cX7_word 7 = .ok (.iconst 0, 1) := by decide +kernel
theorem dX7_word_8 : decode cX7_word 8 = .ok (.istore_n 3, 1) := by decide +kernel
theorem dX7_word_9 : decode cX7_word 9 = .ok (.iload_n 3, 1) := by decide +kernel
theorem dX7_word_10 : decode cX7_word 10 = .ok (.bipush 8, 2) := by decide +kernel
theorem dX7_word_12 : decode cX7_word 12 = .ok (.if_icmp .ge 118, 3) := by decide +kernel
theorem dX7_word_15 : decode cX7_word 15 = .ok (.aload_n 0, 1) := by decide +kernel
theorem dX7_word_16 : decode cX7_word 16 = .ok (.getfield 151, 3) := by decide +kernel
theorem dX7_word_19 : decode cX7_word 19 = .ok (.istore 4, 2) := by decide +kernel
theorem dX7_word_21 : decode cX7_word 21 = .ok (.iload_n 1, 1) := by decide +kernel
theorem dX7_word_22 : decode cX7_word 22 = .ok (.istore 5, 2) := by decide +kernel
theorem dX7_word_24 : decode cX7_word 24 = .ok (.aload_n 0, 1) := by decide +kernel
theorem dX7_word_25 : decode cX7_word 25 = .ok (.getfield 78, 3) := by decide +kernel
theorem dX7_word_28 : decode cX7_word 28 = .ok (.iload 5, 2) := by decide +kernel
theorem dX7_word_30 : decode cX7_word 30 = .ok (.iaload, 1) := by decide +kernel
theorem dX7_word_31 : decode cX7_word 31 = .ok (.ifCond .eq 44, 3) := by decide +kernel
theorem dX7_word_34 : decode cX7_word 34 = .ok (.iload 4, 2) := by decide +kernel
theorem dX7_word_36 : decode cX7_word 36 = .ok (.aload_n 0, 1) := by decide +kernel
theorem dX7_word_37 : decode cX7_word 37 = .ok (.getfield 154, 3) := by decide +kernel
theorem dX7_word_40 : decode cX7_word 40 = .ok (.if_icmp .ge 35, 3) := by decide +kernel
theorem dX7_word_43 : decode cX7_word 43 = .ok (.aload_n 0, 1) := by decide +kernel
theorem dX7_word_44 : decode cX7_word 44 = .ok (.getfield 71, 3) := by decide +kernel
theorem dX7_word_47 : decode cX7_word 47 = .ok (.aload_n 0, 1) := by decide +kernel
theorem dX7_word_48 : decode cX7_word 48 = .ok (.getfield 157, 3) := by decide +kernel
theorem dX7_word_51 : decode cX7_word 51 = .ok (.iload 4, 2) := by decide +kernel
theorem dX7_word_53 : decode cX7_word 53 = .ok (.iadd, 1) := by decide +kernel
theorem dX7_word_54 : decode cX7_word 54 = .ok (.laload, 1) := by decide +kernel
theorem dX7_word_55 : decode cX7_word 55 = .ok (.l2i, 1) := by decide +kernel
theorem dX7_word_56 : decode cX7_word 56 = .ok (.aload_n 0, 1) := by decide +kernel
theorem dX7_word_57 : decode cX7_word 57 = .ok (.getfield 78, 3) := by decide +kernel
theorem dX7_word_60 : decode cX7_word 60 = .ok (.iload 5, 2) := by decide +kernel
theorem dX7_word_62 : decode cX7_word 62 = .ok (.iaload, 1) := by decide +kernel
theorem dX7_word_63 : decode cX7_word 63 = .ok (.if_icmp .ne 12, 3) := by decide +kernel
theorem dX7_word_66 : decode cX7_word 66 = .ok (.iinc 4 1, 3) := by decide +kernel
theorem dX7_word_69 : decode cX7_word 69 = .ok (.iinc 5 1, 3) := by decide +kernel
theorem dX7_word_72 : decode cX7_word 72 = .ok (.goto (-48), 3) := by decide +kernel
theorem dX7_word_75 : decode cX7_word 75 = .ok (.aload_n 0, 1) := by decide +kernel
theorem dX7_word_76 : decode cX7_word 76 = .ok (.getfield 78, 3) := by decide +kernel
theorem dX7_word_79 : decode cX7_word 79 = .ok (.iload 5, 2) := by decide +kernel
theorem dX7_word_81 : decode cX7_word 81 = .ok (.iaload, 1) := by decide +kernel
theorem dX7_word_82 : decode cX7_word 82 = .ok (.ifCond .ne 11, 3) := by decide +kernel
theorem dX7_word_85 : decode cX7_word 85 = .ok (.aload_n 0, 1) := by decide +kernel
theorem dX7_word_86 : decode cX7_word 86 = .ok (.iload 4, 2) := by decide +kernel
theorem dX7_word_88 : decode cX7_word 88 = .ok (.putfield 151, 3) := by decide +kernel
theorem dX7_word_91 : decode cX7_word 91 = .ok (.iload_n 3, 1) := by decide +kernel
theorem dX7_word_92 : decode cX7_word 92 = .ok (.ireturn, 1) := by decide +kernel
theorem dX7_word_93 : decode cX7_word 93 = .ok (.iload 4, 2) := by decide +kernel
theorem dX7_word_95 : decode cX7_word 95 = .ok (.iload_n 2, 1) := by decide +kernel
theorem dX7_word_96 : decode cX7_word 96 = .ok (.if_icmp .le 8, 3) := by decide +kernel
theorem dX7_word_99 : decode cX7_word 99 = .ok (.iload 4, 2) := by decide +kernel
theorem dX7_word_101 : decode cX7_word 101 = .ok (.goto 4, 3) := by decide +kernel
theorem dX7_word_104 : decode cX7_word 104 = .ok (.iload_n 2, 1) := by decide +kernel
theorem dX7_word_105 : decode cX7_word 105 = .ok (.istore_n 2, 1) := by decide +kernel
theorem dX7_word_106 : decode cX7_word 106 = .ok (.aload_n 0, 1) := by decide +kernel
theorem dX7_word_107 : decode cX7_word 107 = .ok (.getfield 78, 3) := by decide +kernel
theorem dX7_word_110 : decode cX7_word 110 = .ok (.iload_n 1, 1) := by decide +kernel
theorem dX7_word_111 : decode cX7_word 111 = .ok (.iaload, 1) := by decide +kernel
theorem dX7_word_112 : decode cX7_word 112 = .ok (.ifCond .eq 9, 3) := by decide +kernel
theorem dX7_word_115 : decode cX7_word 115 = .ok (.iinc 1 1, 3) := by decide +kernel
theorem dX7_word_118 : decode cX7_word 118 = .ok (.goto (-12), 3) := by decide +kernel
theorem dX7_word_121 : decode cX7_word 121 = .ok (.iinc 1 1, 3) := by decide +kernel
theorem dX7_word_124 : decode cX7_word 124 = .ok (.iinc 3 1, 3) := by decide +kernel
theorem dX7_word_127 : decode cX7_word 127 = .ok (.goto (-118), 3) := by decide +kernel
theorem dX7_word_130 : decode cX7_word 130 = .ok (.aload_n 0, 1) := by decide +kernel
theorem dX7_word_131 : decode cX7_word 131 = .ok (.iload_n 2, 1) := by decide +kernel
theorem dX7_word_132 : decode cX7_word 132 = .ok (.putfield 148, 3) := by decide +kernel
theorem dX7_word_135 : decode cX7_word 135 = .ok (.iconst (-1), 1) := by decide +kernel
theorem dX7_word_136 : decode cX7_word 136 = .ok (.ireturn, 1) := by decide +kernel
theorem dX7_isDigit_0 : decode cX7_isDigit 0 = .ok (.aload_n 0, 1) := by decide +kernel
theorem dX7_isDigit_1 : decode cX7_isDigit 1 = .ok (.getfield 151, 3) := by decide +kernel
theorem dX7_isDigit_4 : decode cX7_isDigit 4 = .ok (.aload_n 0, 1) := by decide +kernel
theorem dX7_isDigit_5 : decode cX7_isDigit 5 = .ok (.getfield 154, 3) := by decide +kernel
theorem dX7_isDigit_8 : decode cX7_isDigit 8 = .ok (.if_icmp .ge 47, 3) := by decide +kernel
theorem dX7_isDigit_11 : decode cX7_isDigit 11 = .ok (.aload_n 0, 1) := by decide +kernel
theorem dX7_isDigit_12 : decode cX7_isDigit 12 = .ok (.getfield 71, 3) := by decide +kernel
theorem dX7_isDigit_15 : decode cX7_isDigit 15 = .ok (.aload_n 0, 1) := by decide +kernel
theorem dX7_isDigit_16 : decode cX7_isDigit 16 = .ok (.getfield 157, 3) := by decide +kernel
theorem dX7_isDigit_19 : decode cX7_isDigit 19 = .ok (.aload_n 0, 1) := by decide +kernel
theorem dX7_isDigit_20 : decode cX7_isDigit 20 = .ok (.getfield 151, 3) := by decide +kernel
theorem dX7_isDigit_23 : decode cX7_isDigit 23 = .ok (.iadd, 1) := by decide +kernel
theorem dX7_isDigit_24 : decode cX7_isDigit 24 = .ok (.laload, 1) := by decide +kernel
theorem dX7_isDigit_25 : decode cX7_isDigit 25 = .ok (.l2i, 1) := by decide +kernel
theorem dX7_isDigit_26 : decode cX7_isDigit 26 = .ok (.bipush 48, 2) := by decide +kernel
theorem dX7_isDigit_28 : decode cX7_isDigit 28 = .ok (.if_icmp .lt 27, 3) := by decide +kernel
theorem dX7_isDigit_31 : decode cX7_isDigit 31 = .ok (.aload_n 0, 1) := by decide +kernel
theorem dX7_isDigit_32 : decode cX7_isDigit 32 = .ok (.getfield 71, 3) := by decide +kernel
theorem dX7_isDigit_35 : decode cX7_isDigit 35 = .ok (.aload_n 0, 1) := by decide +kernel
theorem dX7_isDigit_36 : decode cX7_isDigit 36 = .ok (.getfield 157, 3) := by decide +kernel
theorem dX7_isDigit_39 : decode cX7_isDigit 39 = .ok (.aload_n 0, 1) := by decide +kernel
theorem dX7_isDigit_40 : decode cX7_isDigit 40 = .ok (.getfield 151, 3) := by decide +kernel
theorem dX7_isDigit_43 : decode cX7_isDigit 43 = .ok (.iadd, 1) := by decide +kernel
theorem dX7_isDigit_44 : decode cX7_isDigit 44 = .ok (.laload, 1) := by decide +kernel
theorem dX7_isDigit_45 : decode cX7_isDigit 45 = .ok (.l2i, 1) := by decide +kernel
theorem dX7_isDigit_46 : decode cX7_isDigit 46 = .ok (.bipush 57, 2) := by decide +kernel
theorem dX7_isDigit_48 : decode cX7_isDigit 48 = .ok (.if_icmp .gt 7, 3) := by decide +kernel
theorem dX7_isDigit_51 : decode cX7_isDigit 51 = .ok (.iconst 1, 1) := by decide +kernel
theorem dX7_isDigit_52 : decode cX7_isDigit 52 = .ok (.goto 4, 3) := by decide +kernel
theorem dX7_isDigit_55 : decode cX7_isDigit 55 = .ok (.iconst 0, 1) := by decide +kernel
theorem dX7_isDigit_56 : decode cX7_isDigit 56 = .ok (.ireturn, 1) := by decide +kernel
theorem dX7_reads_0 : decode cX7_reads 0 = .ok (.aload_n 0, 1) := by decide +kernel
theorem dX7_reads_1 : decode cX7_reads 1 = .ok (.iconst 0, 1) := by decide +kernel
theorem dX7_reads_2 : decode cX7_reads 2 = .ok (.putfield 160, 3) := by decide +kernel
theorem dX7_reads_5 : decode cX7_reads 5 = .ok (.aload_n 0, 1) := by decide +kernel
theorem dX7_reads_6 : decode cX7_reads 6 = .ok (.invokevirtual 163, 3) := by decide +kernel
theorem dX7_reads_9 : decode cX7_reads 9 = .ok (.ifCond .ne 12, 3) := by decide +kernel
theorem dX7_reads_12 : decode cX7_reads 12 = .ok (.aload_n 0, 1) := by decide +kernel
theorem dX7_reads_13 : decode cX7_reads 13 = .ok (.aload_n 0, 1) := by decide +kernel
theorem dX7_reads_14 : decode cX7_reads 14 = .ok (.getfield 151, 3) := by decide +kernel
theorem dX7_reads_17 : decode cX7_reads 17 = .ok (.invokevirtual 167, 3) := by decide +kernel
theorem dX7_reads_20 : decode cX7_reads 20 = .ok (.ireturn, 1) := by decide +kernel
theorem dX7_reads_21 : decode cX7_reads 21 = .ok (.iconst 0, 1) := by decide +kernel
theorem dX7_reads_22 : decode cX7_reads 22 = .ok (.istore_n 1, 1) := by decide +kernel
theorem dX7_reads_23 : decode cX7_reads 23 = .ok (.iload_n 1, 1) := by decide +kernel
theorem dX7_reads_24 : decode cX7_reads 24 = .ok (.iconst 4, 1) := by decide +kernel
theorem dX7_reads_25 : decode cX7_reads 25 = .ok (.if_icmp .ge 56, 3) := by decide +kernel
theorem dX7_reads_28 : decode cX7_reads 28 = .ok (.aload_n 0, 1) := by decide +kernel
theorem dX7_reads_29 : decode cX7_reads 29 = .ok (.invokevirtual 163, 3) := by decide +kernel
theorem dX7_reads_32 : decode cX7_reads 32 = .ok (.ifCond .eq 49, 3) := by decide +kernel
theorem dX7_reads_35 : decode cX7_reads 35 = .ok (.aload_n 0, 1) := by decide +kernel
theorem dX7_reads_36 : decode cX7_reads 36 = .ok (.bipush 10, 2) := by decide +kernel
theorem dX7_reads_38 : decode cX7_reads 38 = .ok (.aload_n 0, 1) := by decide +kernel
theorem dX7_reads_39 : decode cX7_reads 39 = .ok (.getfield 160, 3) := by decide +kernel
theorem dX7_reads_42 : decode cX7_reads 42 = .ok (.imul, 1) := by decide +kernel
theorem dX7_reads_43 : decode cX7_reads 43 = .ok (.aload_n 0, 1) := by decide +kernel
theorem dX7_reads_44 : decode cX7_reads 44 = .ok (.getfield 71, 3) := by decide +kernel
theorem dX7_reads_47 : decode cX7_reads 47 = .ok (.aload_n 0, 1) := by decide +kernel
theorem dX7_reads_48 : decode cX7_reads 48 = .ok (.getfield 157, 3) := by decide +kernel
theorem dX7_reads_51 : decode cX7_reads 51 = .ok (.aload_n 0, 1) := by decide +kernel
theorem dX7_reads_52 : decode cX7_reads 52 = .ok (.getfield 151, 3) := by decide +kernel
theorem dX7_reads_55 : decode cX7_reads 55 = .ok (.iadd, 1) := by decide +kernel
theorem dX7_reads_56 : decode cX7_reads 56 = .ok (.laload, 1) := by decide +kernel
theorem dX7_reads_57 : decode cX7_reads 57 = .ok (.l2i, 1) := by decide +kernel
theorem dX7_reads_58 : decode cX7_reads 58 = .ok (.iadd, 1) := by decide +kernel
theorem dX7_reads_59 : decode cX7_reads 59 = .ok (.bipush 48, 2) := by decide +kernel
theorem dX7_reads_61 : decode cX7_reads 61 = .ok (.isub, 1) := by decide +kernel
theorem dX7_reads_62 : decode cX7_reads 62 = .ok (.putfield 160, 3) := by decide +kernel
theorem dX7_reads_65 : decode cX7_reads 65 = .ok (.aload_n 0, 1) := by decide +kernel
theorem dX7_reads_66 : decode cX7_reads 66 = .ok (.dup, 1) := by decide +kernel
theorem dX7_reads_67 : decode cX7_reads 67 = .ok (.getfield 151, 3) := by decide +kernel
theorem dX7_reads_70 : decode cX7_reads 70 = .ok (.iconst 1, 1) := by decide +kernel
theorem dX7_reads_71 : decode cX7_reads 71 = .ok (.iadd, 1) := by decide +kernel
theorem dX7_reads_72 : decode cX7_reads 72 = .ok (.putfield 151, 3) := by decide +kernel
theorem dX7_reads_75 : decode cX7_reads 75 = .ok (.iinc 1 1, 3) := by decide +kernel
theorem dX7_reads_78 : decode cX7_reads 78 = .ok (.goto (-55), 3) := by decide +kernel
theorem dX7_reads_81 : decode cX7_reads 81 = .ok (.iconst 1, 1) := by decide +kernel
theorem dX7_reads_82 : decode cX7_reads 82 = .ok (.ireturn, 1) := by decide +kernel
theorem dX7_isSo_0 : decode cX7_isSo 0 = .ok (.iload_n 1, 1) := by decide +kernel
theorem dX7_isSo_1 : decode cX7_isSo 1 = .ok (.tableswitch 257 0 6 #[43, 110, 138, 176, 204, 257, 219], 43) := by decide +kernel
theorem dX7_isSo_44 : decode cX7_isSo 44 = .ok (.iload_n 2, 1) := by decide +kernel
theorem dX7_isSo_45 : decode cX7_isSo 45 = .ok (.ifCond .ne 20, 3) := by decide +kernel
theorem dX7_isSo_48 : decode cX7_isSo 48 = .ok (.aload_n 0, 1) := by decide +kernel
theorem dX7_isSo_49 : decode cX7_isSo 49 = .ok (.getfield 160, 3) := by decide +kernel
theorem dX7_isSo_52 : decode cX7_isSo 52 = .ok (.bipush 6, 2) := by decide +kernel
theorem dX7_isSo_54 : decode cX7_isSo 54 = .ok (.if_icmp .gt 7, 3) := by decide +kernel
theorem dX7_isSo_57 : decode cX7_isSo 57 = .ok (.iconst 1, 1) := by decide +kernel
theorem dX7_isSo_58 : decode cX7_isSo 58 = .ok (.goto 52, 3) := by decide +kernel
theorem dX7_isSo_61 : decode cX7_isSo 61 = .ok (.iconst 0, 1) := by decide +kernel
theorem dX7_isSo_62 : decode cX7_isSo 62 = .ok (.goto 48, 3) := by decide +kernel
theorem dX7_isSo_65 : decode cX7_isSo 65 = .ok (.iload_n 2, 1) := by decide +kernel
theorem dX7_isSo_66 : decode cX7_isSo 66 = .ok (.iconst 1, 1) := by decide +kernel
theorem dX7_isSo_67 : decode cX7_isSo 67 = .ok (.if_icmp .ne 20, 3) := by decide +kernel
theorem dX7_isSo_70 : decode cX7_isSo 70 = .ok (.aload_n 0, 1) := by decide +kernel
theorem dX7_isSo_71 : decode cX7_isSo 71 = .ok (.getfield 160, 3) := by decide +kernel
theorem dX7_isSo_74 : decode cX7_isSo 74 = .ok (.bipush 9, 2) := by decide +kernel
theorem dX7_isSo_76 : decode cX7_isSo 76 = .ok (.if_icmp .gt 7, 3) := by decide +kernel
theorem dX7_isSo_79 : decode cX7_isSo 79 = .ok (.iconst 1, 1) := by decide +kernel
theorem dX7_isSo_80 : decode cX7_isSo 80 = .ok (.goto 30, 3) := by decide +kernel
theorem dX7_isSo_83 : decode cX7_isSo 83 = .ok (.iconst 0, 1) := by decide +kernel
theorem dX7_isSo_84 : decode cX7_isSo 84 = .ok (.goto 26, 3) := by decide +kernel
theorem dX7_isSo_87 : decode cX7_isSo 87 = .ok (.aload_n 0, 1) := by decide +kernel
theorem dX7_isSo_88 : decode cX7_isSo 88 = .ok (.getfield 160, 3) := by decide +kernel
theorem dX7_isSo_91 : decode cX7_isSo 91 = .ok (.iconst 1, 1) := by decide +kernel
theorem dX7_isSo_92 : decode cX7_isSo 92 = .ok (.if_icmp .lt 17, 3) := by decide +kernel
theorem dX7_isSo_95 : decode cX7_isSo 95 = .ok (.aload_n 0, 1) := by decide +kernel
theorem dX7_isSo_96 : decode cX7_isSo 96 = .ok (.getfield 160, 3) := by decide +kernel
theorem dX7_isSo_99 : decode cX7_isSo 99 = .ok (.sipush 999, 3) := by decide +kernel
theorem dX7_isSo_102 : decode cX7_isSo 102 = .ok (.if_icmp .gt 7, 3) := by decide +kernel
theorem dX7_isSo_105 : decode cX7_isSo 105 = .ok (.iconst 1, 1) := by decide +kernel
theorem dX7_isSo_106 : decode cX7_isSo 106 = .ok (.goto 4, 3) := by decide +kernel
theorem dX7_isSo_109 : decode cX7_isSo 109 = .ok (.iconst 0, 1) := by decide +kernel
theorem dX7_isSo_110 : decode cX7_isSo 110 = .ok (.ireturn, 1) := by decide +kernel
theorem dX7_isSo_111 : decode cX7_isSo 111 = .ok (.iload_n 2, 1) := by decide +kernel
theorem dX7_isSo_112 : decode cX7_isSo 112 = .ok (.iconst 1, 1) := by decide +kernel
theorem dX7_isSo_113 : decode cX7_isSo 113 = .ok (.if_icmp .eq 20, 3) := by decide +kernel
theorem dX7_isSo_116 : decode cX7_isSo 116 = .ok (.aload_n 0, 1) := by decide +kernel
theorem dX7_isSo_117 : decode cX7_isSo 117 = .ok (.getfield 160, 3) := by decide +kernel
theorem dX7_isSo_120 : decode cX7_isSo 120 = .ok (.iconst 1, 1) := by decide +kernel
theorem dX7_isSo_121 : decode cX7_isSo 121 = .ok (.if_icmp .lt 16, 3) := by decide +kernel
theorem dX7_isSo_124 : decode cX7_isSo 124 = .ok (.aload_n 0, 1) := by decide +kernel
theorem dX7_isSo_125 : decode cX7_isSo 125 = .ok (.getfield 160, 3) := by decide +kernel
theorem dX7_isSo_128 : decode cX7_isSo 128 = .ok (.bipush 99, 2) := by decide +kernel
theorem dX7_isSo_130 : decode cX7_isSo 130 = .ok (.if_icmp .gt 7, 3) := by decide +kernel
theorem dX7_isSo_133 : decode cX7_isSo 133 = .ok (.iconst 1, 1) := by decide +kernel
theorem dX7_isSo_134 : decode cX7_isSo 134 = .ok (.goto 4, 3) := by decide +kernel
theorem dX7_isSo_137 : decode cX7_isSo 137 = .ok (.iconst 0, 1) := by decide +kernel
theorem dX7_isSo_138 : decode cX7_isSo 138 = .ok (.ireturn, 1) := by decide +kernel
theorem dX7_isSo_139 : decode cX7_isSo 139 = .ok (.iload_n 2, 1) := by decide +kernel
theorem dX7_isSo_140 : decode cX7_isSo 140 = .ok (.ifCond .ne 22, 3) := by decide +kernel
theorem dX7_isSo_143 : decode cX7_isSo 143 = .ok (.aload_n 0, 1) := by decide +kernel
theorem dX7_isSo_144 : decode cX7_isSo 144 = .ok (.getfield 160, 3) := by decide +kernel
theorem dX7_isSo_147 : decode cX7_isSo 147 = .ok (.aload_n 0, 1) := by decide +kernel
theorem dX7_isSo_148 : decode cX7_isSo 148 = .ok (.getfield 117, 3) := by decide +kernel
theorem dX7_isSo_151 : decode cX7_isSo 151 = .ok (.if_icmp .ge 7, 3) := by decide +kernel
theorem dX7_isSo_154 : decode cX7_isSo 154 = .ok (.iconst 1, 1) := by decide +kernel
theorem dX7_isSo_155 : decode cX7_isSo 155 = .ok (.goto 21, 3) := by decide +kernel
theorem dX7_isSo_158 : decode cX7_isSo 158 = .ok (.iconst 0, 1) := by decide +kernel
theorem dX7_isSo_159 : decode cX7_isSo 159 = .ok (.goto 17, 3) := by decide +kernel
theorem dX7_isSo_162 : decode cX7_isSo 162 = .ok (.aload_n 0, 1) := by decide +kernel
theorem dX7_isSo_163 : decode cX7_isSo 163 = .ok (.getfield 160, 3) := by decide +kernel
theorem dX7_isSo_166 : decode cX7_isSo 166 = .ok (.bipush 99, 2) := by decide +kernel
theorem dX7_isSo_168 : decode cX7_isSo 168 = .ok (.if_icmp .gt 7, 3) := by decide +kernel
theorem dX7_isSo_171 : decode cX7_isSo 171 = .ok (.iconst 1, 1) := by decide +kernel
theorem dX7_isSo_172 : decode cX7_isSo 172 = .ok (.goto 4, 3) := by decide +kernel
theorem dX7_isSo_175 : decode cX7_isSo 175 = .ok (.iconst 0, 1) := by decide +kernel
theorem dX7_isSo_176 : decode cX7_isSo 176 = .ok (.ireturn, 1) := by decide +kernel
theorem dX7_isSo_177 : decode cX7_isSo 177 = .ok (.aload_n 0, 1) := by decide +kernel
theorem dX7_isSo_178 : decode cX7_isSo 178 = .ok (.getfield 160, 3) := by decide +kernel
theorem dX7_isSo_181 : decode cX7_isSo 181 = .ok (.iload_n 2, 1) := by decide +kernel
theorem dX7_isSo_182 : decode cX7_isSo 182 = .ok (.ifCond .ne 10, 3) := by decide +kernel
theorem dX7_isSo_185 : decode cX7_isSo 185 = .ok (.aload_n 0, 1) := by decide +kernel
theorem dX7_isSo_186 : decode cX7_isSo 186 = .ok (.getfield 117, 3) := by decide +kernel
theorem dX7_isSo_189 : decode cX7_isSo 189 = .ok (.goto 7, 3) := by decide +kernel
theorem dX7_isSo_192 : decode cX7_isSo 192 = .ok (.aload_n 0, 1) := by decide +kernel
theorem dX7_isSo_193 : decode cX7_isSo 193 = .ok (.getfield 114, 3) := by decide +kernel
theorem dX7_isSo_196 : decode cX7_isSo 196 = .ok (.if_icmp .ge 7, 3) := by decide +kernel
theorem dX7_isSo_199 : decode cX7_isSo 199 = .ok (.iconst 1, 1) := by decide +kernel
theorem dX7_isSo_200 : decode cX7_isSo 200 = .ok (.goto 4, 3) := by decide +kernel
theorem dX7_isSo_203 : decode cX7_isSo 203 = .ok (.iconst 0, 1) := by decide +kernel
theorem dX7_isSo_204 : decode cX7_isSo 204 = .ok (.ireturn, 1) := by decide +kernel
theorem dX7_isSo_205 : decode cX7_isSo 205 = .ok (.aload_n 0, 1) := by decide +kernel
theorem dX7_isSo_206 : decode cX7_isSo 206 = .ok (.getfield 160, 3) := by decide +kernel
theorem dX7_isSo_209 : decode cX7_isSo 209 = .ok (.bipush 99, 2) := by decide +kernel
theorem dX7_isSo_211 : decode cX7_isSo 211 = .ok (.if_icmp .gt 7, 3) := by decide +kernel
theorem dX7_isSo_214 : decode cX7_isSo 214 = .ok (.iconst 1, 1) := by decide +kernel
theorem dX7_isSo_215 : decode cX7_isSo 215 = .ok (.goto 4, 3) := by decide +kernel
theorem dX7_isSo_218 : decode cX7_isSo 218 = .ok (.iconst 0, 1) := by decide +kernel
theorem dX7_isSo_219 : decode cX7_isSo 219 = .ok (.ireturn, 1) := by decide +kernel
theorem dX7_isSo_220 : decode cX7_isSo 220 = .ok (.iload_n 2, 1) := by decide +kernel
theorem dX7_isSo_221 : decode cX7_isSo 221 = .ok (.ifCond .ne 22, 3) := by decide +kernel
theorem dX7_isSo_224 : decode cX7_isSo 224 = .ok (.aload_n 0, 1) := by decide +kernel
theorem dX7_isSo_225 : decode cX7_isSo 225 = .ok (.getfield 160, 3) := by decide +kernel
theorem dX7_isSo_228 : decode cX7_isSo 228 = .ok (.aload_n 0, 1) := by decide +kernel
theorem dX7_isSo_229 : decode cX7_isSo 229 = .ok (.getfield 117, 3) := by decide +kernel
theorem dX7_isSo_232 : decode cX7_isSo 232 = .ok (.if_icmp .ge 7, 3) := by decide +kernel
theorem dX7_isSo_235 : decode cX7_isSo 235 = .ok (.iconst 1, 1) := by decide +kernel
theorem dX7_isSo_236 : decode cX7_isSo 236 = .ok (.goto 21, 3) := by decide +kernel
theorem dX7_isSo_239 : decode cX7_isSo 239 = .ok (.iconst 0, 1) := by decide +kernel
theorem dX7_isSo_240 : decode cX7_isSo 240 = .ok (.goto 17, 3) := by decide +kernel
theorem dX7_isSo_243 : decode cX7_isSo 243 = .ok (.aload_n 0, 1) := by decide +kernel
theorem dX7_isSo_244 : decode cX7_isSo 244 = .ok (.aload_n 0, 1) := by decide +kernel
theorem dX7_isSo_245 : decode cX7_isSo 245 = .ok (.getfield 84, 3) := by decide +kernel
theorem dX7_isSo_248 : decode cX7_isSo 248 = .ok (.iconst 0, 1) := by decide +kernel
theorem dX7_isSo_249 : decode cX7_isSo 249 = .ok (.iaload, 1) := by decide +kernel
theorem dX7_isSo_250 : decode cX7_isSo 250 = .ok (.aload_n 0, 1) := by decide +kernel
theorem dX7_isSo_251 : decode cX7_isSo 251 = .ok (.getfield 160, 3) := by decide +kernel
theorem dX7_isSo_254 : decode cX7_isSo 254 = .ok (.invokevirtual 170, 3) := by decide +kernel
theorem dX7_isSo_257 : decode cX7_isSo 257 = .ok (.ireturn, 1) := by decide +kernel
theorem dX7_isSo_258 : decode cX7_isSo 258 = .ok (.iconst 1, 1) := by decide +kernel
theorem dX7_isSo_259 : decode cX7_isSo 259 = .ok (.ireturn, 1) := by decide +kernel
theorem dX7_item_0 : decode cX7_item 0 = .ok (.aload_n 0, 1) := by decide +kernel
theorem dX7_item_1 : decode cX7_item 1 = .ok (.iconst 0, 1) := by decide +kernel
theorem dX7_item_2 : decode cX7_item 2 = .ok (.invokevirtual 174, 3) := by decide +kernel
theorem dX7_item_5 : decode cX7_item 5 = .ok (.ifCond .eq 12, 3) := by decide +kernel
theorem dX7_item_8 : decode cX7_item 8 = .ok (.aload_n 0, 1) := by decide +kernel
theorem dX7_item_9 : decode cX7_item 9 = .ok (.getfield 114, 3) := by decide +kernel
theorem dX7_item_12 : decode cX7_item 12 = .ok (.bipush 6, 2) := by decide +kernel
theorem dX7_item_14 : decode cX7_item 14 = .ok (.if_icmp .eq 20, 3) := by decide +kernel
theorem dX7_item_17 : decode cX7_item 17 = .ok (.aload_n 0, 1) := by decide +kernel
theorem dX7_item_18 : decode cX7_item 18 = .ok (.iconst 1, 1) := by decide +kernel
theorem dX7_item_19 : decode cX7_item 19 = .ok (.invokevirtual 174, 3) := by decide +kernel
theorem dX7_item_22 : decode cX7_item 22 = .ok (.ifCond .eq 21, 3) := by decide +kernel
theorem dX7_item_25 : decode cX7_item 25 = .ok (.aload_n 0, 1) := by decide +kernel
theorem dX7_item_26 : decode cX7_item 26 = .ok (.getfield 117, 3) := by decide +kernel
theorem dX7_item_29 : decode cX7_item 29 = .ok (.bipush 6, 2) := by decide +kernel
theorem dX7_item_31 : decode cX7_item 31 = .ok (.if_icmp .ne 12, 3) := by decide +kernel
theorem dX7_item_34 : decode cX7_item 34 = .ok (.aload_n 0, 1) := by decide +kernel
theorem dX7_item_35 : decode cX7_item 35 = .ok (.aload_n 0, 1) := by decide +kernel
theorem dX7_item_36 : decode cX7_item 36 = .ok (.getfield 151, 3) := by decide +kernel
theorem dX7_item_39 : decode cX7_item 39 = .ok (.invokevirtual 167, 3) := by decide +kernel
theorem dX7_item_42 : decode cX7_item 42 = .ok (.ireturn, 1) := by decide +kernel
theorem dX7_item_43 : decode cX7_item 43 = .ok (.aload_n 0, 1) := by decide +kernel
theorem dX7_item_44 : decode cX7_item 44 = .ok (.invokevirtual 177, 3) := by decide +kernel
theorem dX7_item_47 : decode cX7_item 47 = .ok (.istore_n 1, 1) := by decide +kernel
theorem dX7_item_48 : decode cX7_item 48 = .ok (.iload_n 1, 1) := by decide +kernel
theorem dX7_item_49 : decode cX7_item 49 = .ok (.iconst (-1), 1) := by decide +kernel
theorem dX7_item_50 : decode cX7_item 50 = .ok (.if_icmp .ne 5, 3) := by decide +kernel
theorem dX7_item_53 : decode cX7_item 53 = .ok (.iconst 0, 1) := by decide +kernel
theorem dX7_item_54 : decode cX7_item 54 = .ok (.ireturn, 1) := by decide +kernel
theorem dX7_item_55 : decode cX7_item 55 = .ok (.iconst 0, 1) := by decide +kernel
theorem dX7_item_56 : decode cX7_item 56 = .ok (.istore_n 2, 1) := by decide +kernel
theorem dX7_item_57 : decode cX7_item 57 = .ok (.iload_n 2, 1) := by decide +kernel
theorem dX7_item_58 : decode cX7_item 58 = .ok (.aload_n 0, 1) := by decide +kernel
theorem dX7_item_59 : decode cX7_item 59 = .ok (.getfield 81, 3) := by decide +kernel
theorem dX7_item_62 : decode cX7_item 62 = .ok (.iload_n 1, 1) := by decide +kernel
theorem dX7_item_63 : decode cX7_item 63 = .ok (.iaload, 1) := by decide +kernel
theorem dX7_item_64 : decode cX7_item 64 = .ok (.if_icmp .ge 102, 3) := by decide +kernel
theorem dX7_item_67 : decode cX7_item 67 = .ok (.iload_n 2, 1) := by decide +kernel
theorem dX7_item_68 : decode cX7_item 68 = .ok (.ifCond .le 53, 3) := by decide +kernel
theorem dX7_item_71 : decode cX7_item 71 = .ok (.aload_n 0, 1) := by decide +kernel
theorem dX7_item_72 : decode cX7_item 72 = .ok (.getfield 151, 3) := by decide +kernel
theorem dX7_item_75 : decode cX7_item 75 = .ok (.aload_n 0, 1) := by decide +kernel
theorem dX7_item_76 : decode cX7_item 76 = .ok (.getfield 154, 3) := by decide +kernel
theorem dX7_item_79 : decode cX7_item 79 = .ok (.if_icmp .ge 23, 3) := by decide +kernel
theorem dX7_item_82 : decode cX7_item 82 = .ok (.aload_n 0, 1) := by decide +kernel
theorem dX7_item_83 : decode cX7_item 83 = .ok (.getfield 71, 3) := by decide +kernel
theorem dX7_item_86 : decode cX7_item 86 = .ok (.aload_n 0, 1) := by decide +kernel
theorem dX7_item_87 : decode cX7_item 87 = .ok (.getfield 157, 3) := by decide +kernel
theorem dX7_item_90 : decode cX7_item 90 = .ok (.aload_n 0, 1) := by decide +kernel
theorem dX7_item_91 : decode cX7_item 91 = .ok (.getfield 151, 3) := by decide +kernel
theorem dX7_item_94 : decode cX7_item 94 = .ok (.iadd, 1) := by decide +kernel
theorem dX7_item_95 : decode cX7_item 95 = .ok (.laload, 1) := by decide +kernel
theorem dX7_item_96 : decode cX7_item 96 = .ok (.l2i, 1) := by decide +kernel
theorem dX7_item_97 : decode cX7_item 97 = .ok (.bipush 32, 2) := by decide +kernel
theorem dX7_item_99 : decode cX7_item 99 = .ok (.if_icmp .eq 12, 3) := by decide +kernel
theorem dX7_item_102 : decode cX7_item 102 = .ok (.aload_n 0, 1) := by decide +kernel
theorem dX7_item_103 : decode cX7_item 103 = .ok (.aload_n 0, 1) := by decide +kernel
theorem dX7_item_104 : decode cX7_item 104 = .ok (.getfield 151, 3) := by decide +kernel
theorem dX7_item_107 : decode cX7_item 107 = .ok (.invokevirtual 167, 3) := by decide +kernel
theorem dX7_item_110 : decode cX7_item 110 = .ok (.ireturn, 1) := by decide +kernel
theorem dX7_item_111 : decode cX7_item 111 = .ok (.aload_n 0, 1) := by decide +kernel
theorem dX7_item_112 : decode cX7_item 112 = .ok (.dup, 1) := by decide +kernel
theorem dX7_item_113 : decode cX7_item 113 = .ok (.getfield 151, 3) := by decide +kernel
theorem dX7_item_116 : decode cX7_item 116 = .ok (.iconst 1, 1) := by decide +kernel
theorem dX7_item_117 : decode cX7_item 117 = .ok (.iadd, 1) := by decide +kernel
theorem dX7_item_118 : decode cX7_item 118 = .ok (.putfield 151, 3) := by decide +kernel
theorem dX7_item_121 : decode cX7_item 121 = .ok (.aload_n 0, 1) := by decide +kernel
theorem dX7_item_122 : decode cX7_item 122 = .ok (.getfield 151, 3) := by decide +kernel
theorem dX7_item_125 : decode cX7_item 125 = .ok (.istore_n 3, 1) := by decide +kernel
theorem dX7_item_126 : decode cX7_item 126 = .ok (.aload_n 0, 1) := by decide +kernel
theorem dX7_item_127 : decode cX7_item 127 = .ok (.invokevirtual 181, 3) := by decide +kernel
theorem dX7_item_130 : decode cX7_item 130 = .ok (.ifCond .ne 5, 3) := by decide +kernel
theorem dX7_item_133 : decode cX7_item 133 = .ok (.iconst 0, 1) := by decide +kernel
theorem dX7_item_134 : decode cX7_item 134 = .ok (.ireturn, 1) := by decide +kernel
theorem dX7_item_135 : decode cX7_item 135 = .ok (.aload_n 0, 1) := by decide +kernel
theorem dX7_item_136 : decode cX7_item 136 = .ok (.iload_n 1, 1) := by decide +kernel
theorem dX7_item_137 : decode cX7_item 137 = .ok (.iload_n 2, 1) := by decide +kernel
theorem dX7_item_138 : decode cX7_item 138 = .ok (.invokevirtual 184, 3) := by decide +kernel
theorem dX7_item_141 : decode cX7_item 141 = .ok (.ifCond .ne 9, 3) := by decide +kernel
theorem dX7_item_144 : decode cX7_item 144 = .ok (.aload_n 0, 1) := by decide +kernel
theorem dX7_item_145 : decode cX7_item 145 = .ok (.iload_n 3, 1) := by decide +kernel
theorem dX7_item_146 : decode cX7_item 146 = .ok (.invokevirtual 167, 3) := by decide +kernel
theorem dX7_item_149 : decode cX7_item 149 = .ok (.ireturn, 1) := by decide +kernel
theorem dX7_item_150 : decode cX7_item 150 = .ok (.aload_n 0, 1) := by decide +kernel
theorem dX7_item_151 : decode cX7_item 151 = .ok (.getfield 84, 3) := by decide +kernel
theorem dX7_item_154 : decode cX7_item 154 = .ok (.iload_n 2, 1) := by decide +kernel
theorem dX7_item_155 : decode cX7_item 155 = .ok (.aload_n 0, 1) := by decide +kernel
theorem dX7_item_156 : decode cX7_item 156 = .ok (.getfield 160, 3) := by decide +kernel
theorem dX7_item_159 : decode cX7_item 159 = .ok (.iastore, 1) := by decide +kernel
theorem dX7_item_160 : decode cX7_item 160 = .ok (.iinc 2 1, 3) := by decide +kernel
theorem dX7_item_163 : decode cX7_item 163 = .ok (.goto (-106), 3) := by decide +kernel
theorem dX7_item_166 : decode cX7_item 166 = .ok (.iload_n 1, 1) := by decide +kernel
theorem dX7_item_167 : decode cX7_item 167 = .ok (.tableswitch 172 0 6 #[41, 67, 87, 107, 127, 140, 153], 41) := by decide +kernel
theorem dX7_item_208 : decode cX7_item 208 = .ok (.aload_n 0, 1) := by decide +kernel
theorem dX7_item_209 : decode cX7_item 209 = .ok (.aload_n 0, 1) := by decide +kernel
theorem dX7_item_210 : decode cX7_item 210 = .ok (.getfield 84, 3) := by decide +kernel
theorem dX7_item_213 : decode cX7_item 213 = .ok (.iconst 0, 1) := by decide +kernel
theorem dX7_item_214 : decode cX7_item 214 = .ok (.iaload, 1) := by decide +kernel
theorem dX7_item_215 : decode cX7_item 215 = .ok (.aload_n 0, 1) := by decide +kernel
theorem dX7_item_216 : decode cX7_item 216 = .ok (.getfield 84, 3) := by decide +kernel
theorem dX7_item_219 : decode cX7_item 219 = .ok (.iconst 1, 1) := by decide +kernel
theorem dX7_item_220 : decode cX7_item 220 = .ok (.iaload, 1) := by decide +kernel
theorem dX7_item_221 : decode cX7_item 221 = .ok (.aload_n 0, 1) := by decide +kernel
theorem dX7_item_222 : decode cX7_item 222 = .ok (.getfield 84, 3) := by decide +kernel
theorem dX7_item_225 : decode cX7_item 225 = .ok (.iconst 2, 1) := by decide +kernel
theorem dX7_item_226 : decode cX7_item 226 = .ok (.iaload, 1) := by decide +kernel
theorem dX7_item_227 : decode cX7_item 227 = .ok (.invokevirtual 134, 3) := by decide +kernel
theorem dX7_item_230 : decode cX7_item 230 = .ok (.pop, 1) := by decide +kernel
theorem dX7_item_231 : decode cX7_item 231 = .ok (.goto 113, 3) := by decide +kernel
theorem dX7_item_234 : decode cX7_item 234 = .ok (.aload_n 0, 1) := by decide +kernel
theorem dX7_item_235 : decode cX7_item 235 = .ok (.aload_n 0, 1) := by decide +kernel
theorem dX7_item_236 : decode cX7_item 236 = .ok (.getfield 84, 3) := by decide +kernel
theorem dX7_item_239 : decode cX7_item 239 = .ok (.iconst 0, 1) := by decide +kernel
theorem dX7_item_240 : decode cX7_item 240 = .ok (.iaload, 1) := by decide +kernel
theorem dX7_item_241 : decode cX7_item 241 = .ok (.aload_n 0, 1) := by decide +kernel
theorem dX7_item_242 : decode cX7_item 242 = .ok (.getfield 84, 3) := by decide +kernel
theorem dX7_item_245 : decode cX7_item 245 = .ok (.iconst 1, 1) := by decide +kernel
theorem dX7_item_246 : decode cX7_item 246 = .ok (.iaload, 1) := by decide +kernel
theorem dX7_item_247 : decode cX7_item 247 = .ok (.invokevirtual 138, 3) := by decide +kernel
theorem dX7_item_250 : decode cX7_item 250 = .ok (.pop, 1) := by decide +kernel
theorem dX7_item_251 : decode cX7_item 251 = .ok (.goto 93, 3) := by decide +kernel
theorem dX7_item_254 : decode cX7_item 254 = .ok (.aload_n 0, 1) := by decide +kernel
theorem dX7_item_255 : decode cX7_item 255 = .ok (.getfield 50, 3) := by decide +kernel
theorem dX7_item_258 : decode cX7_item 258 = .ok (.aload_n 0, 1) := by decide +kernel
theorem dX7_item_259 : decode cX7_item 259 = .ok (.getfield 84, 3) := by decide +kernel
theorem dX7_item_262 : decode cX7_item 262 = .ok (.iconst 0, 1) := by decide +kernel
theorem dX7_item_263 : decode cX7_item 263 = .ok (.iaload, 1) := by decide +kernel
theorem dX7_item_264 : decode cX7_item 264 = .ok (.aload_n 0, 1) := by decide +kernel
theorem dX7_item_265 : decode cX7_item 265 = .ok (.getfield 84, 3) := by decide +kernel
theorem dX7_item_268 : decode cX7_item 268 = .ok (.iconst 1, 1) := by decide +kernel
theorem dX7_item_269 : decode cX7_item 269 = .ok (.iaload, 1) := by decide +kernel
theorem dX7_item_270 : decode cX7_item 270 = .ok (.iastore, 1) := by decide +kernel
theorem dX7_item_271 : decode cX7_item 271 = .ok (.goto 73, 3) := by decide +kernel
theorem dX7_item_274 : decode cX7_item 274 = .ok (.aload_n 0, 1) := by decide +kernel
theorem dX7_item_275 : decode cX7_item 275 = .ok (.getfield 56, 3) := by decide +kernel
theorem dX7_item_278 : decode cX7_item 278 = .ok (.aload_n 0, 1) := by decide +kernel
theorem dX7_item_279 : decode cX7_item 279 = .ok (.getfield 84, 3) := by decide +kernel
theorem dX7_item_282 : decode cX7_item 282 = .ok (.iconst 0, 1) := by decide +kernel
theorem dX7_item_283 : decode cX7_item 283 = .ok (.iaload, 1) := by decide +kernel
theorem dX7_item_284 : decode cX7_item 284 = .ok (.aload_n 0, 1) := by decide +kernel
theorem dX7_item_285 : decode cX7_item 285 = .ok (.getfield 84, 3) := by decide +kernel
theorem dX7_item_288 : decode cX7_item 288 = .ok (.iconst 1, 1) := by decide +kernel
theorem dX7_item_289 : decode cX7_item 289 = .ok (.iaload, 1) := by decide +kernel
theorem dX7_item_290 : decode cX7_item 290 = .ok (.iastore, 1) := by decide +kernel
theorem dX7_item_291 : decode cX7_item 291 = .ok (.goto 53, 3) := by decide +kernel
theorem dX7_item_294 : decode cX7_item 294 = .ok (.aload_n 0, 1) := by decide +kernel
theorem dX7_item_295 : decode cX7_item 295 = .ok (.aload_n 0, 1) := by decide +kernel
theorem dX7_item_296 : decode cX7_item 296 = .ok (.getfield 84, 3) := by decide +kernel
theorem dX7_item_299 : decode cX7_item 299 = .ok (.iconst 0, 1) := by decide +kernel
theorem dX7_item_300 : decode cX7_item 300 = .ok (.iaload, 1) := by decide +kernel
theorem dX7_item_301 : decode cX7_item 301 = .ok (.putfield 7, 3) := by decide +kernel
theorem dX7_item_304 : decode cX7_item 304 = .ok (.goto 40, 3) := by decide +kernel
theorem dX7_item_307 : decode cX7_item 307 = .ok (.aload_n 0, 1) := by decide +kernel
theorem dX7_item_308 : decode cX7_item 308 = .ok (.aload_n 0, 1) := by decide +kernel
theorem dX7_item_309 : decode cX7_item 309 = .ok (.getfield 84, 3) := by decide +kernel
theorem dX7_item_312 : decode cX7_item 312 = .ok (.iconst 0, 1) := by decide +kernel
theorem dX7_item_313 : decode cX7_item 313 = .ok (.iaload, 1) := by decide +kernel
theorem dX7_item_314 : decode cX7_item 314 = .ok (.putfield 13, 3) := by decide +kernel
theorem dX7_item_317 : decode cX7_item 317 = .ok (.goto 27, 3) := by decide +kernel
theorem dX7_item_320 : decode cX7_item 320 = .ok (.aload_n 0, 1) := by decide +kernel
theorem dX7_item_321 : decode cX7_item 321 = .ok (.aload_n 0, 1) := by decide +kernel
theorem dX7_item_322 : decode cX7_item 322 = .ok (.getfield 84, 3) := by decide +kernel
theorem dX7_item_325 : decode cX7_item 325 = .ok (.iconst 0, 1) := by decide +kernel
theorem dX7_item_326 : decode cX7_item 326 = .ok (.iaload, 1) := by decide +kernel
theorem dX7_item_327 : decode cX7_item 327 = .ok (.aload_n 0, 1) := by decide +kernel
theorem dX7_item_328 : decode cX7_item 328 = .ok (.getfield 84, 3) := by decide +kernel
theorem dX7_item_331 : decode cX7_item 331 = .ok (.iconst 1, 1) := by decide +kernel
theorem dX7_item_332 : decode cX7_item 332 = .ok (.iaload, 1) := by decide +kernel
theorem dX7_item_333 : decode cX7_item 333 = .ok (.invokevirtual 187, 3) := by decide +kernel
theorem dX7_item_336 : decode cX7_item 336 = .ok (.goto 8, 3) := by decide +kernel
theorem dX7_item_339 : decode cX7_item 339 = .ok (.aload_n 0, 1) := by decide +kernel
theorem dX7_item_340 : decode cX7_item 340 = .ok (.invokevirtual 191, 3) := by decide +kernel
theorem dX7_item_343 : decode cX7_item 343 = .ok (.pop, 1) := by decide +kernel
theorem dX7_item_344 : decode cX7_item 344 = .ok (.iconst 1, 1) := by decide +kernel
theorem dX7_item_345 : decode cX7_item 345 = .ok (.ireturn, 1) := by decide +kernel
theorem dX7_carries_0 : decode cX7_carries 0 = .ok (.iconst 0, 1) := by decide +kernel
theorem dX7_carries_1 : decode cX7_carries 1 = .ok (.istore 5, 2) := by decide +kernel
theorem dX7_carries_3 : decode cX7_carries 3 = .ok (.iload 5, 2) := by decide +kernel
theorem dX7_carries_5 : decode cX7_carries 5 = .ok (.bipush 6, 2) := by decide +kernel
theorem dX7_carries_7 : decode cX7_carries 7 = .ok (.if_icmp .ge 37, 3) := by decide +kernel
theorem dX7_carries_10 : decode cX7_carries 10 = .ok (.iload 4, 2) := by decide +kernel
theorem dX7_carries_12 : decode cX7_carries 12 = .ok (.ifCond .eq 16, 3) := by decide +kernel
theorem dX7_carries_15 : decode cX7_carries 15 = .ok (.aload_n 1, 1) := by decide +kernel
theorem dX7_carries_16 : decode cX7_carries 16 = .ok (.iload 5, 2) := by decide +kernel
theorem dX7_carries_18 : decode cX7_carries 18 = .ok (.aload_n 2, 1) := by decide +kernel
theorem dX7_carries_19 : decode cX7_carries 19 = .ok (.iload_n 3, 1) := by decide +kernel
theorem dX7_carries_20 : decode cX7_carries 20 = .ok (.iload 5, 2) := by decide +kernel
theorem dX7_carries_22 : decode cX7_carries 22 = .ok (.iadd, 1) := by decide +kernel
theorem dX7_carries_23 : decode cX7_carries 23 = .ok (.iaload, 1) := by decide +kernel
theorem dX7_carries_24 : decode cX7_carries 24 = .ok (.iastore, 1) := by decide +kernel
theorem dX7_carries_25 : decode cX7_carries 25 = .ok (.goto 13, 3) := by decide +kernel
theorem dX7_carries_28 : decode cX7_carries 28 = .ok (.aload_n 2, 1) := by decide +kernel
theorem dX7_carries_29 : decode cX7_carries 29 = .ok (.iload_n 3, 1) := by decide +kernel
theorem dX7_carries_30 : decode cX7_carries 30 = .ok (.iload 5, 2) := by decide +kernel
theorem dX7_carries_32 : decode cX7_carries 32 = .ok (.iadd, 1) := by decide +kernel
theorem dX7_carries_33 : decode cX7_carries 33 = .ok (.aload_n 1, 1) := by decide +kernel
theorem dX7_carries_34 : decode cX7_carries 34 = .ok (.iload 5, 2) := by decide +kernel
theorem dX7_carries_36 : decode cX7_carries 36 = .ok (.iaload, 1) := by decide +kernel
theorem dX7_carries_37 : decode cX7_carries 37 = .ok (.iastore, 1) := by decide +kernel
theorem dX7_carries_38 : decode cX7_carries 38 = .ok (.iinc 5 1, 3) := by decide +kernel
theorem dX7_carries_41 : decode cX7_carries 41 = .ok (.goto (-38), 3) := by decide +kernel
theorem dX7_carries_44 : decode cX7_carries 44 = .ok (.iload_n 3, 1) := by decide +kernel
theorem dX7_carries_45 : decode cX7_carries 45 = .ok (.bipush 6, 2) := by decide +kernel
theorem dX7_carries_47 : decode cX7_carries 47 = .ok (.iadd, 1) := by decide +kernel
theorem dX7_carries_48 : decode cX7_carries 48 = .ok (.ireturn, 1) := by decide +kernel
theorem dX7_all_0 : decode cX7_all 0 = .ok (.aload_n 0, 1) := by decide +kernel
theorem dX7_all_1 : decode cX7_all 1 = .ok (.aload_n 0, 1) := by decide +kernel
theorem dX7_all_2 : decode cX7_all 2 = .ok (.getfield 26, 3) := by decide +kernel
theorem dX7_all_5 : decode cX7_all 5 = .ok (.aload_n 1, 1) := by decide +kernel
theorem dX7_all_6 : decode cX7_all 6 = .ok (.iconst 0, 1) := by decide +kernel
theorem dX7_all_7 : decode cX7_all 7 = .ok (.iload_n 2, 1) := by decide +kernel
theorem dX7_all_8 : decode cX7_all 8 = .ok (.invokevirtual 194, 3) := by decide +kernel
theorem dX7_all_11 : decode cX7_all 11 = .ok (.istore_n 3, 1) := by decide +kernel
theorem dX7_all_12 : decode cX7_all 12 = .ok (.aload_n 0, 1) := by decide +kernel
theorem dX7_all_13 : decode cX7_all 13 = .ok (.aload_n 0, 1) := by decide +kernel
theorem dX7_all_14 : decode cX7_all 14 = .ok (.getfield 29, 3) := by decide +kernel
theorem dX7_all_17 : decode cX7_all 17 = .ok (.aload_n 1, 1) := by decide +kernel
theorem dX7_all_18 : decode cX7_all 18 = .ok (.iload_n 3, 1) := by decide +kernel
theorem dX7_all_19 : decode cX7_all 19 = .ok (.iload_n 2, 1) := by decide +kernel
theorem dX7_all_20 : decode cX7_all 20 = .ok (.invokevirtual 194, 3) := by decide +kernel
theorem dX7_all_23 : decode cX7_all 23 = .ok (.istore_n 3, 1) := by decide +kernel
theorem dX7_all_24 : decode cX7_all 24 = .ok (.aload_n 0, 1) := by decide +kernel
theorem dX7_all_25 : decode cX7_all 25 = .ok (.aload_n 0, 1) := by decide +kernel
theorem dX7_all_26 : decode cX7_all 26 = .ok (.getfield 32, 3) := by decide +kernel
theorem dX7_all_29 : decode cX7_all 29 = .ok (.aload_n 1, 1) := by decide +kernel
theorem dX7_all_30 : decode cX7_all 30 = .ok (.iload_n 3, 1) := by decide +kernel
theorem dX7_all_31 : decode cX7_all 31 = .ok (.iload_n 2, 1) := by decide +kernel
theorem dX7_all_32 : decode cX7_all 32 = .ok (.invokevirtual 194, 3) := by decide +kernel
theorem dX7_all_35 : decode cX7_all 35 = .ok (.istore_n 3, 1) := by decide +kernel
theorem dX7_all_36 : decode cX7_all 36 = .ok (.aload_n 0, 1) := by decide +kernel
theorem dX7_all_37 : decode cX7_all 37 = .ok (.aload_n 0, 1) := by decide +kernel
theorem dX7_all_38 : decode cX7_all 38 = .ok (.getfield 35, 3) := by decide +kernel
theorem dX7_all_41 : decode cX7_all 41 = .ok (.aload_n 1, 1) := by decide +kernel
theorem dX7_all_42 : decode cX7_all 42 = .ok (.iload_n 3, 1) := by decide +kernel
theorem dX7_all_43 : decode cX7_all 43 = .ok (.iload_n 2, 1) := by decide +kernel
theorem dX7_all_44 : decode cX7_all 44 = .ok (.invokevirtual 194, 3) := by decide +kernel
theorem dX7_all_47 : decode cX7_all 47 = .ok (.istore_n 3, 1) := by decide +kernel
theorem dX7_all_48 : decode cX7_all 48 = .ok (.aload_n 0, 1) := by decide +kernel
theorem dX7_all_49 : decode cX7_all 49 = .ok (.aload_n 0, 1) := by decide +kernel
theorem dX7_all_50 : decode cX7_all 50 = .ok (.getfield 38, 3) := by decide +kernel
theorem dX7_all_53 : decode cX7_all 53 = .ok (.aload_n 1, 1) := by decide +kernel
theorem dX7_all_54 : decode cX7_all 54 = .ok (.iload_n 3, 1) := by decide +kernel
theorem dX7_all_55 : decode cX7_all 55 = .ok (.iload_n 2, 1) := by decide +kernel
theorem dX7_all_56 : decode cX7_all 56 = .ok (.invokevirtual 194, 3) := by decide +kernel
theorem dX7_all_59 : decode cX7_all 59 = .ok (.istore_n 3, 1) := by decide +kernel
theorem dX7_all_60 : decode cX7_all 60 = .ok (.aload_n 0, 1) := by decide +kernel
theorem dX7_all_61 : decode cX7_all 61 = .ok (.aload_n 0, 1) := by decide +kernel
theorem dX7_all_62 : decode cX7_all 62 = .ok (.getfield 41, 3) := by decide +kernel
theorem dX7_all_65 : decode cX7_all 65 = .ok (.aload_n 1, 1) := by decide +kernel
theorem dX7_all_66 : decode cX7_all 66 = .ok (.iload_n 3, 1) := by decide +kernel
theorem dX7_all_67 : decode cX7_all 67 = .ok (.iload_n 2, 1) := by decide +kernel
theorem dX7_all_68 : decode cX7_all 68 = .ok (.invokevirtual 194, 3) := by decide +kernel
theorem dX7_all_71 : decode cX7_all 71 = .ok (.istore_n 3, 1) := by decide +kernel
theorem dX7_all_72 : decode cX7_all 72 = .ok (.aload_n 0, 1) := by decide +kernel
theorem dX7_all_73 : decode cX7_all 73 = .ok (.aload_n 0, 1) := by decide +kernel
theorem dX7_all_74 : decode cX7_all 74 = .ok (.getfield 44, 3) := by decide +kernel
theorem dX7_all_77 : decode cX7_all 77 = .ok (.aload_n 1, 1) := by decide +kernel
theorem dX7_all_78 : decode cX7_all 78 = .ok (.iload_n 3, 1) := by decide +kernel
theorem dX7_all_79 : decode cX7_all 79 = .ok (.iload_n 2, 1) := by decide +kernel
theorem dX7_all_80 : decode cX7_all 80 = .ok (.invokevirtual 194, 3) := by decide +kernel
theorem dX7_all_83 : decode cX7_all 83 = .ok (.istore_n 3, 1) := by decide +kernel
theorem dX7_all_84 : decode cX7_all 84 = .ok (.aload_n 0, 1) := by decide +kernel
theorem dX7_all_85 : decode cX7_all 85 = .ok (.aload_n 0, 1) := by decide +kernel
theorem dX7_all_86 : decode cX7_all 86 = .ok (.getfield 47, 3) := by decide +kernel
theorem dX7_all_89 : decode cX7_all 89 = .ok (.aload_n 1, 1) := by decide +kernel
theorem dX7_all_90 : decode cX7_all 90 = .ok (.iload_n 3, 1) := by decide +kernel
theorem dX7_all_91 : decode cX7_all 91 = .ok (.iload_n 2, 1) := by decide +kernel
theorem dX7_all_92 : decode cX7_all 92 = .ok (.invokevirtual 194, 3) := by decide +kernel
theorem dX7_all_95 : decode cX7_all 95 = .ok (.istore_n 3, 1) := by decide +kernel
theorem dX7_all_96 : decode cX7_all 96 = .ok (.aload_n 0, 1) := by decide +kernel
theorem dX7_all_97 : decode cX7_all 97 = .ok (.aload_n 0, 1) := by decide +kernel
theorem dX7_all_98 : decode cX7_all 98 = .ok (.getfield 50, 3) := by decide +kernel
theorem dX7_all_101 : decode cX7_all 101 = .ok (.aload_n 1, 1) := by decide +kernel
theorem dX7_all_102 : decode cX7_all 102 = .ok (.iload_n 3, 1) := by decide +kernel
theorem dX7_all_103 : decode cX7_all 103 = .ok (.iload_n 2, 1) := by decide +kernel
theorem dX7_all_104 : decode cX7_all 104 = .ok (.invokevirtual 194, 3) := by decide +kernel
theorem dX7_all_107 : decode cX7_all 107 = .ok (.istore_n 3, 1) := by decide +kernel
theorem dX7_all_108 : decode cX7_all 108 = .ok (.aload_n 0, 1) := by decide +kernel
theorem dX7_all_109 : decode cX7_all 109 = .ok (.aload_n 0, 1) := by decide +kernel
theorem dX7_all_110 : decode cX7_all 110 = .ok (.getfield 53, 3) := by decide +kernel
theorem dX7_all_113 : decode cX7_all 113 = .ok (.aload_n 1, 1) := by decide +kernel
theorem dX7_all_114 : decode cX7_all 114 = .ok (.iload_n 3, 1) := by decide +kernel
theorem dX7_all_115 : decode cX7_all 115 = .ok (.iload_n 2, 1) := by decide +kernel
theorem dX7_all_116 : decode cX7_all 116 = .ok (.invokevirtual 194, 3) := by decide +kernel
theorem dX7_all_119 : decode cX7_all 119 = .ok (.istore_n 3, 1) := by decide +kernel
theorem dX7_all_120 : decode cX7_all 120 = .ok (.aload_n 0, 1) := by decide +kernel
theorem dX7_all_121 : decode cX7_all 121 = .ok (.aload_n 0, 1) := by decide +kernel
theorem dX7_all_122 : decode cX7_all 122 = .ok (.getfield 56, 3) := by decide +kernel
theorem dX7_all_125 : decode cX7_all 125 = .ok (.aload_n 1, 1) := by decide +kernel
theorem dX7_all_126 : decode cX7_all 126 = .ok (.iload_n 3, 1) := by decide +kernel
theorem dX7_all_127 : decode cX7_all 127 = .ok (.iload_n 2, 1) := by decide +kernel
theorem dX7_all_128 : decode cX7_all 128 = .ok (.invokevirtual 194, 3) := by decide +kernel
theorem dX7_all_131 : decode cX7_all 131 = .ok (.istore_n 3, 1) := by decide +kernel
theorem dX7_all_132 : decode cX7_all 132 = .ok (.iload_n 2, 1) := by decide +kernel
theorem dX7_all_133 : decode cX7_all 133 = .ok (.ifCond .eq 78, 3) := by decide +kernel
theorem dX7_all_136 : decode cX7_all 136 = .ok (.aload_n 0, 1) := by decide +kernel
theorem dX7_all_137 : decode cX7_all 137 = .ok (.aload_n 1, 1) := by decide +kernel
theorem dX7_all_138 : decode cX7_all 138 = .ok (.iload_n 3, 1) := by decide +kernel
theorem dX7_all_139 : decode cX7_all 139 = .ok (.iaload, 1) := by decide +kernel
theorem dX7_all_140 : decode cX7_all 140 = .ok (.putfield 114, 3) := by decide +kernel
theorem dX7_all_143 : decode cX7_all 143 = .ok (.aload_n 0, 1) := by decide +kernel
theorem dX7_all_144 : decode cX7_all 144 = .ok (.aload_n 1, 1) := by decide +kernel
theorem dX7_all_145 : decode cX7_all 145 = .ok (.iload_n 3, 1) := by decide +kernel
theorem dX7_all_146 : decode cX7_all 146 = .ok (.iconst 1, 1) := by decide +kernel
theorem dX7_all_147 : decode cX7_all 147 = .ok (.iadd, 1) := by decide +kernel
theorem dX7_all_148 : decode cX7_all 148 = .ok (.iaload, 1) := by decide +kernel
theorem dX7_all_149 : decode cX7_all 149 = .ok (.putfield 117, 3) := by decide +kernel
theorem dX7_all_152 : decode cX7_all 152 = .ok (.aload_n 0, 1) := by decide +kernel
theorem dX7_all_153 : decode cX7_all 153 = .ok (.aload_n 1, 1) := by decide +kernel
theorem dX7_all_154 : decode cX7_all 154 = .ok (.iload_n 3, 1) := by decide +kernel
theorem dX7_all_155 : decode cX7_all 155 = .ok (.iconst 2, 1) := by decide +kernel
theorem dX7_all_156 : decode cX7_all 156 = .ok (.iadd, 1) := by decide +kernel
theorem dX7_all_157 : decode cX7_all 157 = .ok (.iaload, 1) := by decide +kernel
theorem dX7_all_158 : decode cX7_all 158 = .ok (.putfield 198, 3) := by decide +kernel
theorem dX7_all_161 : decode cX7_all 161 = .ok (.aload_n 0, 1) := by decide +kernel
theorem dX7_all_162 : decode cX7_all 162 = .ok (.aload_n 1, 1) := by decide +kernel
theorem dX7_all_163 : decode cX7_all 163 = .ok (.iload_n 3, 1) := by decide +kernel
theorem dX7_all_164 : decode cX7_all 164 = .ok (.iconst 3, 1) := by decide +kernel
theorem dX7_all_165 : decode cX7_all 165 = .ok (.iadd, 1) := by decide +kernel
theorem dX7_all_166 : decode cX7_all 166 = .ok (.iaload, 1) := by decide +kernel
theorem dX7_all_167 : decode cX7_all 167 = .ok (.putfield 201, 3) := by decide +kernel
theorem dX7_all_170 : decode cX7_all 170 = .ok (.aload_n 0, 1) := by decide +kernel
theorem dX7_all_171 : decode cX7_all 171 = .ok (.aload_n 1, 1) := by decide +kernel
theorem dX7_all_172 : decode cX7_all 172 = .ok (.iload_n 3, 1) := by decide +kernel
theorem dX7_all_173 : decode cX7_all 173 = .ok (.iconst 4, 1) := by decide +kernel
theorem dX7_all_174 : decode cX7_all 174 = .ok (.iadd, 1) := by decide +kernel
theorem dX7_all_175 : decode cX7_all 175 = .ok (.iaload, 1) := by decide +kernel
theorem dX7_all_176 : decode cX7_all 176 = .ok (.putfield 7, 3) := by decide +kernel
theorem dX7_all_179 : decode cX7_all 179 = .ok (.aload_n 0, 1) := by decide +kernel
theorem dX7_all_180 : decode cX7_all 180 = .ok (.aload_n 1, 1) := by decide +kernel
theorem dX7_all_181 : decode cX7_all 181 = .ok (.iload_n 3, 1) := by decide +kernel
theorem dX7_all_182 : decode cX7_all 182 = .ok (.iconst 5, 1) := by decide +kernel
theorem dX7_all_183 : decode cX7_all 183 = .ok (.iadd, 1) := by decide +kernel
theorem dX7_all_184 : decode cX7_all 184 = .ok (.iaload, 1) := by decide +kernel
theorem dX7_all_185 : decode cX7_all 185 = .ok (.putfield 13, 3) := by decide +kernel
theorem dX7_all_188 : decode cX7_all 188 = .ok (.aload_n 0, 1) := by decide +kernel
theorem dX7_all_189 : decode cX7_all 189 = .ok (.aload_n 1, 1) := by decide +kernel
theorem dX7_all_190 : decode cX7_all 190 = .ok (.iload_n 3, 1) := by decide +kernel
theorem dX7_all_191 : decode cX7_all 191 = .ok (.bipush 6, 2) := by decide +kernel
theorem dX7_all_193 : decode cX7_all 193 = .ok (.iadd, 1) := by decide +kernel
theorem dX7_all_194 : decode cX7_all 194 = .ok (.iaload, 1) := by decide +kernel
theorem dX7_all_195 : decode cX7_all 195 = .ok (.putfield 204, 3) := by decide +kernel
theorem dX7_all_198 : decode cX7_all 198 = .ok (.aload_n 0, 1) := by decide +kernel
theorem dX7_all_199 : decode cX7_all 199 = .ok (.aload_n 1, 1) := by decide +kernel
theorem dX7_all_200 : decode cX7_all 200 = .ok (.iload_n 3, 1) := by decide +kernel
theorem dX7_all_201 : decode cX7_all 201 = .ok (.bipush 7, 2) := by decide +kernel
theorem dX7_all_203 : decode cX7_all 203 = .ok (.iadd, 1) := by decide +kernel
theorem dX7_all_204 : decode cX7_all 204 = .ok (.iaload, 1) := by decide +kernel
theorem dX7_all_205 : decode cX7_all 205 = .ok (.putfield 16, 3) := by decide +kernel
theorem dX7_all_208 : decode cX7_all 208 = .ok (.goto 75, 3) := by decide +kernel
theorem dX7_all_211 : decode cX7_all 211 = .ok (.aload_n 1, 1) := by decide +kernel
theorem dX7_all_212 : decode cX7_all 212 = .ok (.iload_n 3, 1) := by decide +kernel
theorem dX7_all_213 : decode cX7_all 213 = .ok (.aload_n 0, 1) := by decide +kernel
theorem dX7_all_214 : decode cX7_all 214 = .ok (.getfield 114, 3) := by decide +kernel
theorem dX7_all_217 : decode cX7_all 217 = .ok (.iastore, 1) := by decide +kernel
theorem dX7_all_218 : decode cX7_all 218 = .ok (.aload_n 1, 1) := by decide +kernel
theorem dX7_all_219 : decode cX7_all 219 = .ok (.iload_n 3, 1) := by decide +kernel
theorem dX7_all_220 : decode cX7_all 220 = .ok (.iconst 1, 1) := by decide +kernel
theorem dX7_all_221 : decode cX7_all 221 = .ok (.iadd, 1) := by decide +kernel
theorem dX7_all_222 : decode cX7_all 222 = .ok (.aload_n 0, 1) := by decide +kernel
theorem dX7_all_223 : decode cX7_all 223 = .ok (.getfield 117, 3) := by decide +kernel
theorem dX7_all_226 : decode cX7_all 226 = .ok (.iastore, 1) := by decide +kernel
theorem dX7_all_227 : decode cX7_all 227 = .ok (.aload_n 1, 1) := by decide +kernel
theorem dX7_all_228 : decode cX7_all 228 = .ok (.iload_n 3, 1) := by decide +kernel
theorem dX7_all_229 : decode cX7_all 229 = .ok (.iconst 2, 1) := by decide +kernel
theorem dX7_all_230 : decode cX7_all 230 = .ok (.iadd, 1) := by decide +kernel
theorem dX7_all_231 : decode cX7_all 231 = .ok (.aload_n 0, 1) := by decide +kernel
theorem dX7_all_232 : decode cX7_all 232 = .ok (.getfield 198, 3) := by decide +kernel
theorem dX7_all_235 : decode cX7_all 235 = .ok (.iastore, 1) := by decide +kernel
theorem dX7_all_236 : decode cX7_all 236 = .ok (.aload_n 1, 1) := by decide +kernel
theorem dX7_all_237 : decode cX7_all 237 = .ok (.iload_n 3, 1) := by decide +kernel
theorem dX7_all_238 : decode cX7_all 238 = .ok (.iconst 3, 1) := by decide +kernel
theorem dX7_all_239 : decode cX7_all 239 = .ok (.iadd, 1) := by decide +kernel
theorem dX7_all_240 : decode cX7_all 240 = .ok (.aload_n 0, 1) := by decide +kernel
theorem dX7_all_241 : decode cX7_all 241 = .ok (.getfield 201, 3) := by decide +kernel
theorem dX7_all_244 : decode cX7_all 244 = .ok (.iastore, 1) := by decide +kernel
theorem dX7_all_245 : decode cX7_all 245 = .ok (.aload_n 1, 1) := by decide +kernel
theorem dX7_all_246 : decode cX7_all 246 = .ok (.iload_n 3, 1) := by decide +kernel
theorem dX7_all_247 : decode cX7_all 247 = .ok (.iconst 4, 1) := by decide +kernel
theorem dX7_all_248 : decode cX7_all 248 = .ok (.iadd, 1) := by decide +kernel
theorem dX7_all_249 : decode cX7_all 249 = .ok (.aload_n 0, 1) := by decide +kernel
theorem dX7_all_250 : decode cX7_all 250 = .ok (.getfield 7, 3) := by decide +kernel
theorem dX7_all_253 : decode cX7_all 253 = .ok (.iastore, 1) := by decide +kernel
theorem dX7_all_254 : decode cX7_all 254 = .ok (.aload_n 1, 1) := by decide +kernel
theorem dX7_all_255 : decode cX7_all 255 = .ok (.iload_n 3, 1) := by decide +kernel
theorem dX7_all_256 : decode cX7_all 256 = .ok (.iconst 5, 1) := by decide +kernel
theorem dX7_all_257 : decode cX7_all 257 = .ok (.iadd, 1) := by decide +kernel
theorem dX7_all_258 : decode cX7_all 258 = .ok (.aload_n 0, 1) := by decide +kernel
theorem dX7_all_259 : decode cX7_all 259 = .ok (.getfield 13, 3) := by decide +kernel
theorem dX7_all_262 : decode cX7_all 262 = .ok (.iastore, 1) := by decide +kernel
theorem dX7_all_263 : decode cX7_all 263 = .ok (.aload_n 1, 1) := by decide +kernel
theorem dX7_all_264 : decode cX7_all 264 = .ok (.iload_n 3, 1) := by decide +kernel
theorem dX7_all_265 : decode cX7_all 265 = .ok (.bipush 6, 2) := by decide +kernel
theorem dX7_all_267 : decode cX7_all 267 = .ok (.iadd, 1) := by decide +kernel
theorem dX7_all_268 : decode cX7_all 268 = .ok (.aload_n 0, 1) := by decide +kernel
theorem dX7_all_269 : decode cX7_all 269 = .ok (.getfield 204, 3) := by decide +kernel
theorem dX7_all_272 : decode cX7_all 272 = .ok (.iastore, 1) := by decide +kernel
theorem dX7_all_273 : decode cX7_all 273 = .ok (.aload_n 1, 1) := by decide +kernel
theorem dX7_all_274 : decode cX7_all 274 = .ok (.iload_n 3, 1) := by decide +kernel
theorem dX7_all_275 : decode cX7_all 275 = .ok (.bipush 7, 2) := by decide +kernel
theorem dX7_all_277 : decode cX7_all 277 = .ok (.iadd, 1) := by decide +kernel
theorem dX7_all_278 : decode cX7_all 278 = .ok (.aload_n 0, 1) := by decide +kernel
theorem dX7_all_279 : decode cX7_all 279 = .ok (.getfield 16, 3) := by decide +kernel
theorem dX7_all_282 : decode cX7_all 282 = .ok (.iastore, 1) := by decide +kernel
theorem dX7_all_283 : decode cX7_all 283 = .ok (.return_, 1) := by decide +kernel
theorem dX7_garden_0 : decode cX7_garden 0 = .ok (.aload_n 0, 1) := by decide +kernel
theorem dX7_garden_1 : decode cX7_garden 1 = .ok (.iload_n 1, 1) := by decide +kernel
theorem dX7_garden_2 : decode cX7_garden 2 = .ok (.invokevirtual 207, 3) := by decide +kernel
theorem dX7_garden_5 : decode cX7_garden 5 = .ok (.istore_n 2, 1) := by decide +kernel
theorem dX7_garden_6 : decode cX7_garden 6 = .ok (.iload_n 2, 1) := by decide +kernel
theorem dX7_garden_7 : decode cX7_garden 7 = .ok (.ifCond .eq 9, 3) := by decide +kernel
theorem dX7_garden_10 : decode cX7_garden 10 = .ok (.aload_n 0, 1) := by decide +kernel
theorem dX7_garden_11 : decode cX7_garden 11 = .ok (.iload_n 2, 1) := by decide +kernel
theorem dX7_garden_12 : decode cX7_garden 12 = .ok (.invokevirtual 124, 3) := by decide +kernel
theorem dX7_garden_15 : decode cX7_garden 15 = .ok (.ireturn, 1) := by decide +kernel
theorem dX7_garden_16 : decode cX7_garden 16 = .ok (.aload_n 0, 1) := by decide +kernel
theorem dX7_garden_17 : decode cX7_garden 17 = .ok (.aload_n 0, 1) := by decide +kernel
theorem dX7_garden_18 : decode cX7_garden 18 = .ok (.getfield 87, 3) := by decide +kernel
theorem dX7_garden_21 : decode cX7_garden 21 = .ok (.iconst 0, 1) := by decide +kernel
theorem dX7_garden_22 : decode cX7_garden 22 = .ok (.invokevirtual 210, 3) := by decide +kernel
theorem dX7_garden_25 : decode cX7_garden 25 = .ok (.aload_n 0, 1) := by decide +kernel
theorem dX7_garden_26 : decode cX7_garden 26 = .ok (.sipush 160, 3) := by decide +kernel
theorem dX7_garden_29 : decode cX7_garden 29 = .ok (.iload_n 1, 1) := by decide +kernel
theorem dX7_garden_30 : decode cX7_garden 30 = .ok (.imul, 1) := by decide +kernel
theorem dX7_garden_31 : decode cX7_garden 31 = .ok (.putfield 157, 3) := by decide +kernel
theorem dX7_garden_34 : decode cX7_garden 34 = .ok (.aload_n 0, 1) := by decide +kernel
theorem dX7_garden_35 : decode cX7_garden 35 = .ok (.iconst 0, 1) := by decide +kernel
theorem dX7_garden_36 : decode cX7_garden 36 = .ok (.putfield 151, 3) := by decide +kernel
theorem dX7_garden_39 : decode cX7_garden 39 = .ok (.aload_n 0, 1) := by decide +kernel
theorem dX7_garden_40 : decode cX7_garden 40 = .ok (.aload_n 0, 1) := by decide +kernel
theorem dX7_garden_41 : decode cX7_garden 41 = .ok (.getfield 65, 3) := by decide +kernel
theorem dX7_garden_44 : decode cX7_garden 44 = .ok (.iload_n 1, 1) := by decide +kernel
theorem dX7_garden_45 : decode cX7_garden 45 = .ok (.iaload, 1) := by decide +kernel
theorem dX7_garden_46 : decode cX7_garden 46 = .ok (.putfield 154, 3) := by decide +kernel
theorem dX7_garden_49 : decode cX7_garden 49 = .ok (.aload_n 0, 1) := by decide +kernel
theorem dX7_garden_50 : decode cX7_garden 50 = .ok (.iconst (-1), 1) := by decide +kernel
theorem dX7_garden_51 : decode cX7_garden 51 = .ok (.putfield 19, 3) := by decide +kernel
theorem dX7_garden_54 : decode cX7_garden 54 = .ok (.iconst 1, 1) := by decide +kernel
theorem dX7_garden_55 : decode cX7_garden 55 = .ok (.istore_n 3, 1) := by decide +kernel
theorem dX7_garden_56 : decode cX7_garden 56 = .ok (.aload_n 0, 1) := by decide +kernel
theorem dX7_garden_57 : decode cX7_garden 57 = .ok (.invokevirtual 214, 3) := by decide +kernel
theorem dX7_garden_60 : decode cX7_garden 60 = .ok (.istore 4, 2) := by decide +kernel
theorem dX7_garden_62 : decode cX7_garden 62 = .ok (.iload 4, 2) := by decide +kernel
theorem dX7_garden_64 : decode cX7_garden 64 = .ok (.ifCond .eq 69, 3) := by decide +kernel
theorem dX7_garden_67 : decode cX7_garden 67 = .ok (.aload_n 0, 1) := by decide +kernel
theorem dX7_garden_68 : decode cX7_garden 68 = .ok (.getfield 151, 3) := by decide +kernel
theorem dX7_garden_71 : decode cX7_garden 71 = .ok (.aload_n 0, 1) := by decide +kernel
theorem dX7_garden_72 : decode cX7_garden 72 = .ok (.getfield 154, 3) := by decide +kernel
theorem dX7_garden_75 : decode cX7_garden 75 = .ok (.if_icmp .ge 58, 3) := by decide +kernel
theorem dX7_garden_78 : decode cX7_garden 78 = .ok (.aload_n 0, 1) := by decide +kernel
theorem dX7_garden_79 : decode cX7_garden 79 = .ok (.getfield 71, 3) := by decide +kernel
theorem dX7_garden_82 : decode cX7_garden 82 = .ok (.aload_n 0, 1) := by decide +kernel
theorem dX7_garden_83 : decode cX7_garden 83 = .ok (.getfield 157, 3) := by decide +kernel
theorem dX7_garden_86 : decode cX7_garden 86 = .ok (.aload_n 0, 1) := by decide +kernel
theorem dX7_garden_87 : decode cX7_garden 87 = .ok (.getfield 151, 3) := by decide +kernel
theorem dX7_garden_90 : decode cX7_garden 90 = .ok (.iadd, 1) := by decide +kernel
theorem dX7_garden_91 : decode cX7_garden 91 = .ok (.laload, 1) := by decide +kernel
theorem dX7_garden_92 : decode cX7_garden 92 = .ok (.l2i, 1) := by decide +kernel
theorem dX7_garden_93 : decode cX7_garden 93 = .ok (.bipush 59, 2) := by decide +kernel
theorem dX7_garden_95 : decode cX7_garden 95 = .ok (.if_icmp .eq 16, 3) := by decide +kernel
theorem dX7_garden_98 : decode cX7_garden 98 = .ok (.aload_n 0, 1) := by decide +kernel
theorem dX7_garden_99 : decode cX7_garden 99 = .ok (.aload_n 0, 1) := by decide +kernel
theorem dX7_garden_100 : decode cX7_garden 100 = .ok (.getfield 151, 3) := by decide +kernel
theorem dX7_garden_103 : decode cX7_garden 103 = .ok (.invokevirtual 167, 3) := by decide +kernel
theorem dX7_garden_106 : decode cX7_garden 106 = .ok (.istore 4, 2) := by decide +kernel
theorem dX7_garden_108 : decode cX7_garden 108 = .ok (.goto (-46), 3) := by decide +kernel
theorem dX7_garden_111 : decode cX7_garden 111 = .ok (.aload_n 0, 1) := by decide +kernel
theorem dX7_garden_112 : decode cX7_garden 112 = .ok (.dup, 1) := by decide +kernel
theorem dX7_garden_113 : decode cX7_garden 113 = .ok (.getfield 151, 3) := by decide +kernel
theorem dX7_garden_116 : decode cX7_garden 116 = .ok (.iconst 1, 1) := by decide +kernel
theorem dX7_garden_117 : decode cX7_garden 117 = .ok (.iadd, 1) := by decide +kernel
theorem dX7_garden_118 : decode cX7_garden 118 = .ok (.putfield 151, 3) := by decide +kernel
theorem dX7_garden_121 : decode cX7_garden 121 = .ok (.iinc 3 1, 3) := by decide +kernel
theorem dX7_garden_124 : decode cX7_garden 124 = .ok (.aload_n 0, 1) := by decide +kernel
theorem dX7_garden_125 : decode cX7_garden 125 = .ok (.invokevirtual 214, 3) := by decide +kernel
theorem dX7_garden_128 : decode cX7_garden 128 = .ok (.istore 4, 2) := by decide +kernel
theorem dX7_garden_130 : decode cX7_garden 130 = .ok (.goto (-68), 3) := by decide +kernel
theorem dX7_garden_133 : decode cX7_garden 133 = .ok (.iload 4, 2) := by decide +kernel
theorem dX7_garden_135 : decode cX7_garden 135 = .ok (.ifCond .eq 5, 3) := by decide +kernel
theorem dX7_garden_138 : decode cX7_garden 138 = .ok (.iload_n 3, 1) := by decide +kernel
theorem dX7_garden_139 : decode cX7_garden 139 = .ok (.ireturn, 1) := by decide +kernel
theorem dX7_garden_140 : decode cX7_garden 140 = .ok (.aload_n 0, 1) := by decide +kernel
theorem dX7_garden_141 : decode cX7_garden 141 = .ok (.aload_n 0, 1) := by decide +kernel
theorem dX7_garden_142 : decode cX7_garden 142 = .ok (.getfield 87, 3) := by decide +kernel
theorem dX7_garden_145 : decode cX7_garden 145 = .ok (.iconst 1, 1) := by decide +kernel
theorem dX7_garden_146 : decode cX7_garden 146 = .ok (.invokevirtual 210, 3) := by decide +kernel
theorem dX7_garden_149 : decode cX7_garden 149 = .ok (.aload_n 0, 1) := by decide +kernel
theorem dX7_garden_150 : decode cX7_garden 150 = .ok (.aload_n 0, 1) := by decide +kernel
theorem dX7_garden_151 : decode cX7_garden 151 = .ok (.getfield 148, 3) := by decide +kernel
theorem dX7_garden_154 : decode cX7_garden 154 = .ok (.putfield 19, 3) := by decide +kernel
theorem dX7_garden_157 : decode cX7_garden 157 = .ok (.aload_n 0, 1) := by decide +kernel
theorem dX7_garden_158 : decode cX7_garden 158 = .ok (.bipush (-6), 2) := by decide +kernel
theorem dX7_garden_160 : decode cX7_garden 160 = .ok (.invokevirtual 124, 3) := by decide +kernel
theorem dX7_garden_163 : decode cX7_garden 163 = .ok (.ireturn, 1) := by decide +kernel
theorem dX7_fault_0 : decode cX7_fault 0 = .ok (.aload_n 0, 1) := by decide +kernel
theorem dX7_fault_1 : decode cX7_fault 1 = .ok (.getfield 19, 3) := by decide +kernel
theorem dX7_fault_4 : decode cX7_fault 4 = .ok (.ireturn, 1) := by decide +kernel
theorem dX7_asked_0 : decode cX7_asked 0 = .ok (.aload_n 0, 1) := by decide +kernel
theorem dX7_asked_1 : decode cX7_asked 1 = .ok (.getfield 32, 3) := by decide +kernel
theorem dX7_asked_4 : decode cX7_asked 4 = .ok (.iload_n 1, 1) := by decide +kernel
theorem dX7_asked_5 : decode cX7_asked 5 = .ok (.iaload, 1) := by decide +kernel
theorem dX7_asked_6 : decode cX7_asked 6 = .ok (.i2l, 1) := by decide +kernel
theorem dX7_asked_7 : decode cX7_asked 7 = .ok (.lstore_n 2, 1) := by decide +kernel
theorem dX7_asked_8 : decode cX7_asked 8 = .ok (.aload_n 0, 1) := by decide +kernel
theorem dX7_asked_9 : decode cX7_asked 9 = .ok (.getfield 26, 3) := by decide +kernel
theorem dX7_asked_12 : decode cX7_asked 12 = .ok (.iload_n 1, 1) := by decide +kernel
theorem dX7_asked_13 : decode cX7_asked 13 = .ok (.iaload, 1) := by decide +kernel
theorem dX7_asked_14 : decode cX7_asked 14 = .ok (.tableswitch 120 1 6 #[38, 87, 58, 120, 107, 38], 38) := by decide +kernel
theorem dX7_asked_52 : decode cX7_asked 52 = .ok (.lload_n 2, 1) := by decide +kernel
theorem dX7_asked_53 : decode cX7_asked 53 = .ok (.aload_n 0, 1) := by decide +kernel
theorem dX7_asked_54 : decode cX7_asked 54 = .ok (.getfield 29, 3) := by decide +kernel
theorem dX7_asked_57 : decode cX7_asked 57 = .ok (.iload_n 1, 1) := by decide +kernel
theorem dX7_asked_58 : decode cX7_asked 58 = .ok (.iaload, 1) := by decide +kernel
theorem dX7_asked_59 : decode cX7_asked 59 = .ok (.aload_n 0, 1) := by decide +kernel
theorem dX7_asked_60 : decode cX7_asked 60 = .ok (.getfield 35, 3) := by decide +kernel
theorem dX7_asked_63 : decode cX7_asked 63 = .ok (.iload_n 1, 1) := by decide +kernel
theorem dX7_asked_64 : decode cX7_asked 64 = .ok (.iaload, 1) := by decide +kernel
theorem dX7_asked_65 : decode cX7_asked 65 = .ok (.imul, 1) := by decide +kernel
theorem dX7_asked_66 : decode cX7_asked 66 = .ok (.i2l, 1) := by decide +kernel
theorem dX7_asked_67 : decode cX7_asked 67 = .ok (.ladd, 1) := by decide +kernel
theorem dX7_asked_68 : decode cX7_asked 68 = .ok (.lstore_n 2, 1) := by decide +kernel
theorem dX7_asked_69 : decode cX7_asked 69 = .ok (.goto 65, 3) := by decide +kernel
theorem dX7_asked_72 : decode cX7_asked 72 = .ok (.lload_n 2, 1) := by decide +kernel
theorem dX7_asked_73 : decode cX7_asked 73 = .ok (.aload_n 0, 1) := by decide +kernel
theorem dX7_asked_74 : decode cX7_asked 74 = .ok (.getfield 29, 3) := by decide +kernel
theorem dX7_asked_77 : decode cX7_asked 77 = .ok (.iload_n 1, 1) := by decide +kernel
theorem dX7_asked_78 : decode cX7_asked 78 = .ok (.iaload, 1) := by decide +kernel
theorem dX7_asked_79 : decode cX7_asked 79 = .ok (.i2l, 1) := by decide +kernel
theorem dX7_asked_80 : decode cX7_asked 80 = .ok (.aload_n 0, 1) := by decide +kernel
theorem dX7_asked_81 : decode cX7_asked 81 = .ok (.getfield 35, 3) := by decide +kernel
theorem dX7_asked_84 : decode cX7_asked 84 = .ok (.iload_n 1, 1) := by decide +kernel
theorem dX7_asked_85 : decode cX7_asked 85 = .ok (.iaload, 1) := by decide +kernel
theorem dX7_asked_86 : decode cX7_asked 86 = .ok (.i2l, 1) := by decide +kernel
theorem dX7_asked_87 : decode cX7_asked 87 = .ok (.lmul, 1) := by decide +kernel
theorem dX7_asked_88 : decode cX7_asked 88 = .ok (.aload_n 0, 1) := by decide +kernel
theorem dX7_asked_89 : decode cX7_asked 89 = .ok (.getfield 35, 3) := by decide +kernel
theorem dX7_asked_92 : decode cX7_asked 92 = .ok (.iload_n 1, 1) := by decide +kernel
theorem dX7_asked_93 : decode cX7_asked 93 = .ok (.iaload, 1) := by decide +kernel
theorem dX7_asked_94 : decode cX7_asked 94 = .ok (.i2l, 1) := by decide +kernel
theorem dX7_asked_95 : decode cX7_asked 95 = .ok (.lmul, 1) := by decide +kernel
theorem dX7_asked_96 : decode cX7_asked 96 = .ok (.ladd, 1) := by decide +kernel
theorem dX7_asked_97 : decode cX7_asked 97 = .ok (.lstore_n 2, 1) := by decide +kernel
theorem dX7_asked_98 : decode cX7_asked 98 = .ok (.goto 36, 3) := by decide +kernel
theorem dX7_asked_101 : decode cX7_asked 101 = .ok (.lload_n 2, 1) := by decide +kernel
theorem dX7_asked_102 : decode cX7_asked 102 = .ok (.aload_n 0, 1) := by decide +kernel
theorem dX7_asked_103 : decode cX7_asked 103 = .ok (.getfield 29, 3) := by decide +kernel
theorem dX7_asked_106 : decode cX7_asked 106 = .ok (.iload_n 1, 1) := by decide +kernel
theorem dX7_asked_107 : decode cX7_asked 107 = .ok (.iaload, 1) := by decide +kernel
theorem dX7_asked_108 : decode cX7_asked 108 = .ok (.aload_n 0, 1) := by decide +kernel
theorem dX7_asked_109 : decode cX7_asked 109 = .ok (.getfield 38, 3) := by decide +kernel
theorem dX7_asked_112 : decode cX7_asked 112 = .ok (.iload_n 1, 1) := by decide +kernel
theorem dX7_asked_113 : decode cX7_asked 113 = .ok (.iaload, 1) := by decide +kernel
theorem dX7_asked_114 : decode cX7_asked 114 = .ok (.imul, 1) := by decide +kernel
theorem dX7_asked_115 : decode cX7_asked 115 = .ok (.i2l, 1) := by decide +kernel
theorem dX7_asked_116 : decode cX7_asked 116 = .ok (.lsub, 1) := by decide +kernel
theorem dX7_asked_117 : decode cX7_asked 117 = .ok (.lstore_n 2, 1) := by decide +kernel
theorem dX7_asked_118 : decode cX7_asked 118 = .ok (.goto 16, 3) := by decide +kernel
theorem dX7_asked_121 : decode cX7_asked 121 = .ok (.lload_n 2, 1) := by decide +kernel
theorem dX7_asked_122 : decode cX7_asked 122 = .ok (.aload_n 0, 1) := by decide +kernel
theorem dX7_asked_123 : decode cX7_asked 123 = .ok (.getfield 38, 3) := by decide +kernel
theorem dX7_asked_126 : decode cX7_asked 126 = .ok (.iload_n 1, 1) := by decide +kernel
theorem dX7_asked_127 : decode cX7_asked 127 = .ok (.iaload, 1) := by decide +kernel
theorem dX7_asked_128 : decode cX7_asked 128 = .ok (.i2l, 1) := by decide +kernel
theorem dX7_asked_129 : decode cX7_asked 129 = .ok (.lsub, 1) := by decide +kernel
theorem dX7_asked_130 : decode cX7_asked 130 = .ok (.lstore_n 2, 1) := by decide +kernel
