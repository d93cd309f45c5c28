theorem dX11_init_0 : decode cX11_init 0 = .ok (.aload_n 0, 1) := by decide +kernel
theorem dX11_init_1 : decode cX11_init 1 = .ok (.invokespecial 1, 3) := by decide +kernel
theorem dX11_init_4 : decode cX11_init 4 = .ok (.aload_n 0, 1) := by decide +kernel
theorem dX11_init_5 : decode cX11_init 5 = .ok (.bipush 16, 2) := by decide +kernel
theorem dX11_init_7 : decode cX11_init 7 = .ok (.newarray .int, 2) := by decide +kernel
theorem dX11_init_9 : decode cX11_init 9 = .ok (.putfield 7, 3) := by decide +kernel
theorem dX11_init_12 : decode cX11_init 12 = .ok (.aload_n 0, 1) := by decide +kernel
theorem dX11_init_13 : decode cX11_init 13 = .ok (.bipush 16, 2) := by decide +kernel
theorem dX11_init_15 : decode cX11_init 15 = .ok (.newarray .int, 2) := by decide +kernel
theorem dX11_init_17 : decode cX11_init 17 = .ok (.putfield 13, 3) := by decide +kernel
theorem dX11_init_20 : decode cX11_init 20 = .ok (.aload_n 0, 1) := by decide +kernel
theorem dX11_init_21 : decode cX11_init 21 = .ok (.bipush 64, 2) := by decide +kernel
theorem dX11_init_23 : decode cX11_init 23 = .ok (.newarray .int, 2) := by decide +kernel
theorem dX11_init_25 : decode cX11_init 25 = .ok (.putfield 16, 3) := by decide +kernel
theorem dX11_init_28 : decode cX11_init 28 = .ok (.aload_n 0, 1) := by decide +kernel
theorem dX11_init_29 : decode cX11_init 29 = .ok (.bipush 16, 2) := by decide +kernel
theorem dX11_init_31 : decode cX11_init 31 = .ok (.newarray .int, 2) := by decide +kernel
theorem dX11_init_33 : decode cX11_init 33 = .ok (.putfield 19, 3) := by decide +kernel
theorem dX11_init_36 : decode cX11_init 36 = .ok (.aload_n 0, 1) := by decide +kernel
theorem dX11_init_37 : decode cX11_init 37 = .ok (.bipush 16, 2) := by decide +kernel
theorem dX11_init_39 : decode cX11_init 39 = .ok (.newarray .int, 2) := by decide +kernel
theorem dX11_init_41 : decode cX11_init 41 = .ok (.putfield 22, 3) := by decide +kernel
theorem dX11_init_44 : decode cX11_init 44 = .ok (.aload_n 0, 1) := by decide +kernel
theorem dX11_init_45 : decode cX11_init 45 = .ok (.bipush 16, 2) := by decide +kernel
theorem dX11_init_47 : decode cX11_init 47 = .ok (.newarray .int, 2) := by decide +kernel
theorem dX11_init_49 : decode cX11_init 49 = .ok (.putfield 25, 3) := by decide +kernel
theorem dX11_init_52 : decode cX11_init 52 = .ok (.aload_n 0, 1) := by decide +kernel
theorem dX11_init_53 : decode cX11_init 53 = .ok (.bipush 16, 2) := by decide +kernel
theorem dX11_init_55 : decode cX11_init 55 = .ok (.newarray .int, 2) := by decide +kernel
theorem dX11_init_57 : decode cX11_init 57 = .ok (.putfield 28, 3) := by decide +kernel
theorem dX11_init_60 : decode cX11_init 60 = .ok (.aload_n 0, 1) := by decide +kernel
theorem dX11_init_61 : decode cX11_init 61 = .ok (.bipush 16, 2) := by decide +kernel
theorem dX11_init_63 : decode cX11_init 63 = .ok (.newarray .int, 2) := by decide +kernel
theorem dX11_init_65 : decode cX11_init 65 = .ok (.putfield 31, 3) := by decide +kernel
theorem dX11_init_68 : decode cX11_init 68 = .ok (.aload_n 0, 1) := by decide +kernel
theorem dX11_init_69 : decode cX11_init 69 = .ok (.bipush 16, 2) := by decide +kernel
theorem dX11_init_71 : decode cX11_init 71 = .ok (.newarray .int, 2) := by decide +kernel
theorem dX11_init_73 : decode cX11_init 73 = .ok (.putfield 34, 3) := by decide +kernel
theorem dX11_init_76 : decode cX11_init 76 = .ok (.aload_n 0, 1) := by decide +kernel
theorem dX11_init_77 : decode cX11_init 77 = .ok (.bipush 9, 2) := by decide +kernel
theorem dX11_init_79 : decode cX11_init 79 = .ok (.newarray .int, 2) := by decide +kernel
theorem dX11_init_81 : decode cX11_init 81 = .ok (.putfield 37, 3) := by decide +kernel
theorem dX11_init_84 : decode cX11_init 84 = .ok (.aload_n 0, 1) := by decide +kernel
theorem dX11_init_85 : decode cX11_init 85 = .ok (.bipush 9, 2) := by decide +kernel
theorem dX11_init_87 : decode cX11_init 87 = .ok (.newarray .int, 2) := by decide +kernel
theorem dX11_init_89 : decode cX11_init 89 = .ok (.putfield 40, 3) := by decide +kernel
theorem dX11_init_92 : decode cX11_init 92 = .ok (.aload_n 0, 1) := by decide +kernel
theorem dX11_init_93 : decode cX11_init 93 = .ok (.bipush 9, 2) := by decide +kernel
theorem dX11_init_95 : decode cX11_init 95 = .ok (.newarray .int, 2) := by decide +kernel
theorem dX11_init_97 : decode cX11_init 97 = .ok (.putfield 43, 3) := by decide +kernel
theorem dX11_init_100 : decode cX11_init 100 = .ok (.aload_n 0, 1) := by decide +kernel
theorem dX11_init_101 : decode cX11_init 101 = .ok (.bipush 9, 2) := by decide +kernel
theorem dX11_init_103 : decode cX11_init 103 = .ok (.newarray .int, 2) := by decide +kernel
theorem dX11_init_105 : decode cX11_init 105 = .ok (.putfield 46, 3) := by decide +kernel
theorem dX11_init_108 : decode cX11_init 108 = .ok (.aload_n 0, 1) := by decide +kernel
theorem dX11_init_109 : decode cX11_init 109 = .ok (.bipush 6, 2) := by decide +kernel
theorem dX11_init_111 : decode cX11_init 111 = .ok (.newarray .int, 2) := by decide +kernel
theorem dX11_init_113 : decode cX11_init 113 = .ok (.putfield 49, 3) := by decide +kernel
theorem dX11_init_116 : decode cX11_init 116 = .ok (.aload_n 0, 1) := by decide +kernel
theorem dX11_init_117 : decode cX11_init 117 = .ok (.bipush 96, 2) := by decide +kernel
theorem dX11_init_119 : decode cX11_init 119 = .ok (.newarray .int, 2) := by decide +kernel
theorem dX11_init_121 : decode cX11_init 121 = .ok (.putfield 52, 3) := by decide +kernel
theorem dX11_init_124 : decode cX11_init 124 = .ok (.aload_n 0, 1) := by decide +kernel
theorem dX11_init_125 : decode cX11_init 125 = .ok (.bipush 120, 2) := by decide +kernel
theorem dX11_init_127 : decode cX11_init 127 = .ok (.newarray .byte, 2) := by decide +kernel
theorem dX11_init_129 : decode cX11_init 129 = .ok (.putfield 55, 3) := by decide +kernel
theorem dX11_init_132 : decode cX11_init 132 = .ok (.aload_n 0, 1) := by decide +kernel
theorem dX11_init_133 : decode cX11_init 133 = .ok (.bipush 12, 2) := by decide +kernel
theorem dX11_init_135 : decode cX11_init 135 = .ok (.newarray .boolean, 2) := by decide +kernel
theorem dX11_init_137 : decode cX11_init 137 = .ok (.putfield 59, 3) := by decide +kernel
theorem dX11_init_140 : decode cX11_init 140 = .ok (.aload_n 0, 1) := by decide +kernel
theorem dX11_init_141 : decode cX11_init 141 = .ok (.bipush 12, 2) := by decide +kernel
theorem dX11_init_143 : decode cX11_init 143 = .ok (.newarray .int, 2) := by decide +kernel
theorem dX11_init_145 : decode cX11_init 145 = .ok (.putfield 63, 3) := by decide +kernel
theorem dX11_init_148 : decode cX11_init 148 = .ok (.aload_n 0, 1) := by decide +kernel
theorem dX11_init_149 : decode cX11_init 149 = .ok (.bipush 12, 2) := by decide +kernel
theorem dX11_init_151 : decode cX11_init 151 = .ok (.newarray .int, 2) := by decide +kernel
theorem dX11_init_153 : decode cX11_init 153 = .ok (.putfield 66, 3) := by decide +kernel
theorem dX11_init_156 : decode cX11_init 156 = .ok (.aload_n 0, 1) := by decide +kernel
theorem dX11_init_157 : decode cX11_init 157 = .ok (.bipush 24, 2) := by decide +kernel
theorem dX11_init_159 : decode cX11_init 159 = .ok (.newarray .int, 2) := by decide +kernel
theorem dX11_init_161 : decode cX11_init 161 = .ok (.putfield 69, 3) := by decide +kernel
theorem dX11_init_164 : decode cX11_init 164 = .ok (.aload_n 0, 1) := by decide +kernel
theorem dX11_init_165 : decode cX11_init 165 = .ok (.bipush 24, 2) := by decide +kernel
theorem dX11_init_167 : decode cX11_init 167 = .ok (.newarray .int, 2) := by decide +kernel
theorem dX11_init_169 : decode cX11_init 169 = .ok (.putfield 72, 3) := by decide +kernel
theorem dX11_init_172 : decode cX11_init 172 = .ok (.aload_n 0, 1) := by decide +kernel
theorem dX11_init_173 : decode cX11_init 173 = .ok (.bipush 24, 2) := by decide +kernel
theorem dX11_init_175 : decode cX11_init 175 = .ok (.newarray .int, 2) := by decide +kernel
theorem dX11_init_177 : decode cX11_init 177 = .ok (.putfield 75, 3) := by decide +kernel
theorem dX11_init_180 : decode cX11_init 180 = .ok (.aload_n 0, 1) := by decide +kernel
theorem dX11_init_181 : decode cX11_init 181 = .ok (.bipush 19, 2) := by decide +kernel
theorem dX11_init_183 : decode cX11_init 183 = .ok (.newarray .char, 2) := by decide +kernel
theorem dX11_init_185 : decode cX11_init 185 = .ok (.dup, 1) := by decide +kernel
theorem dX11_init_186 : decode cX11_init 186 = .ok (.iconst 0, 1) := by decide +kernel
theorem dX11_init_187 : decode cX11_init 187 = .ok (.bipush 109, 2) := by decide +kernel
theorem dX11_init_189 : decode cX11_init 189 = .ok (.castore, 1) := by decide +kernel
theorem dX11_init_190 : decode cX11_init 190 = .ok (.dup, 1) := by decide +kernel
theorem dX11_init_191 : decode cX11_init 191 = .ok (.iconst 1, 1) := by decide +kernel
theorem dX11_init_192 : decode cX11_init 192 = .ok (.bipush 97, 2) := by decide +kernel
theorem dX11_init_194 : decode cX11_init 194 = .ok (.castore, 1) := by decide +kernel
theorem dX11_init_195 : decode cX11_init 195 = .ok (.dup, 1) := by decide +kernel
theorem dX11_init_196 : decode cX11_init 196 = .ok (.iconst 2, 1) := by decide +kernel
theorem dX11_init_197 : decode cX11_init 197 = .ok (.bipush 114, 2) := by decide +kernel
theorem dX11_init_199 : decode cX11_init 199 = .ok (.castore, 1) := by decide +kernel
theorem dX11_init_200 : decode cX11_init 200 = .ok (.dup, 1) := by decide +kernel
theorem dX11_init_201 : decode cX11_init 201 = .ok (.iconst 3, 1) := by decide +kernel
theorem dX11_init_202 : decode cX11_init 202 = .ok (.bipush 107, 2) := by decide +kernel
theorem dX11_init_204 : decode cX11_init 204 = .ok (.castore, 1) := by decide +kernel
theorem dX11_init_205 : decode cX11_init 205 = .ok (.dup, 1) := by decide +kernel
theorem dX11_init_206 : decode cX11_init 206 = .ok (.iconst 4, 1) := by decide +kernel
theorem dX11_init_207 : decode cX11_init 207 = .ok (.bipush 104, 2) := by decide +kernel
theorem dX11_init_209 : decode cX11_init 209 = .ok (.castore, 1) := by decide +kernel
theorem dX11_init_210 : decode cX11_init 210 = .ok (.dup, 1) := by decide +kernel
theorem dX11_init_211 : decode cX11_init 211 = .ok (.iconst 5, 1) := by decide +kernel
theorem dX11_init_212 : decode cX11_init 212 = .ok (.bipush 97, 2) := by decide +kernel
theorem dX11_init_214 : decode cX11_init 214 = .ok (.castore, 1) := by decide +kernel
theorem dX11_init_215 : decode cX11_init 215 = .ok (.dup, 1) := by decide +kernel
theorem dX11_init_216 : decode cX11_init 216 = .ok (.bipush 6, 2) := by decide +kernel
theorem dX11_init_218 : decode cX11_init 218 = .ok (.bipush 114, 2) := by decide +kernel
theorem dX11_init_220 : decode cX11_init 220 = .ok (.castore, 1) := by decide +kernel
theorem dX11_init_221 : decode cX11_init 221 = .ok (.dup, 1) := by decide +kernel
theorem dX11_init_222 : decode cX11_init 222 = .ok (.bipush 7, 2) := by decide +kernel
theorem dX11_init_224 : decode cX11_init 224 = .ok (.bipush 100, 2) := by decide +kernel
theorem dX11_init_226 : decode cX11_init 226 = .ok (.castore, 1) := by decide +kernel
theorem dX11_init_227 : decode cX11_init 227 = .ok (.dup, 1) := by decide +kernel
theorem dX11_init_228 : decode cX11_init 228 = .ok (.bipush 8, 2) := by decide +kernel
theorem dX11_init_230 : decode cX11_init 230 = .ok (.bipush 116, 2) := by decide +kernel
theorem dX11_init_232 : decode cX11_init 232 = .ok (.castore, 1) := by decide +kernel
theorem dX11_init_233 : decode cX11_init 233 = .ok (.dup, 1) := by decide +kernel
theorem dX11_init_234 : decode cX11_init 234 = .ok (.bipush 9, 2) := by decide +kernel
theorem dX11_init_236 : decode cX11_init 236 = .ok (.bipush 111, 2) := by decide +kernel
theorem dX11_init_238 : decode cX11_init 238 = .ok (.castore, 1) := by decide +kernel
theorem dX11_init_239 : decode cX11_init 239 = .ok (.dup, 1) := by decide +kernel
theorem dX11_init_240 : decode cX11_init 240 = .ok (.bipush 10, 2) := by decide +kernel
theorem dX11_init_242 : decode cX11_init 242 = .ok (.bipush 119, 2) := by decide +kernel
theorem dX11_init_244 : decode cX11_init 244 = .ok (.castore, 1) := by decide +kernel
theorem dX11_init_245 : decode cX11_init 245 = .ok (.dup, 1) := by decide +kernel
theorem dX11_init_246 : decode cX11_init 246 = .ok (.bipush 11, 2) := by decide +kernel
theorem dX11_init_248 : decode cX11_init 248 = .ok (.bipush 110, 2) := by decide +kernel
theorem dX11_init_250 : decode cX11_init 250 = .ok (.castore, 1) := by decide +kernel
theorem dX11_init_251 : decode cX11_init 251 = .ok (.dup, 1) := by decide +kernel
theorem dX11_init_252 : decode cX11_init 252 = .ok (.bipush 12, 2) := by decide +kernel
theorem dX11_init_254 : decode cX11_init 254 = .ok (.bipush 115, 2) := by decide +kernel
theorem dX11_init_256 : decode cX11_init 256 = .ok (.castore, 1) := by decide +kernel
theorem dX11_init_257 : decode cX11_init 257 = .ok (.dup, 1) := by decide +kernel
theorem dX11_init_258 : decode cX11_init 258 = .ok (.bipush 13, 2) := by decide +kernel
theorem dX11_init_260 : decode cX11_init 260 = .ok (.bipush 105, 2) := by decide +kernel
theorem dX11_init_262 : decode cX11_init 262 = .ok (.castore, 1) := by decide +kernel
theorem dX11_init_263 : decode cX11_init 263 = .ok (.dup, 1) := by decide +kernel
theorem dX11_init_264 : decode cX11_init 264 = .ok (.bipush 14, 2) := by decide +kernel
theorem dX11_init_266 : decode cX11_init 266 = .ok (.bipush 122, 2) := by decide +kernel
theorem dX11_init_268 : decode cX11_init 268 = .ok (.castore, 1) := by decide +kernel
theorem dX11_init_269 : decode cX11_init 269 = .ok (.dup, 1) := by decide +kernel
theorem dX11_init_270 : decode cX11_init 270 = .ok (.bipush 15, 2) := by decide +kernel
theorem dX11_init_272 : decode cX11_init 272 = .ok (.bipush 101, 2) := by decide +kernel
theorem dX11_init_274 : decode cX11_init 274 = .ok (.castore, 1) := by decide +kernel
theorem dX11_init_275 : decode cX11_init 275 = .ok (.dup, 1) := by decide +kernel
theorem dX11_init_276 : decode cX11_init 276 = .ok (.bipush 16, 2) := by decide +kernel
theorem dX11_init_278 : decode cX11_init 278 = .ok (.bipush 100, 2) := by decide +kernel
theorem dX11_init_280 : decode cX11_init 280 = .ok (.castore, 1) := by decide +kernel
theorem dX11_init_281 : decode cX11_init 281 = .ok (.dup, 1) := by decide +kernel
theorem dX11_init_282 : decode cX11_init 282 = .ok (.bipush 17, 2) := by decide +kernel
theorem dX11_init_284 : decode cX11_init 284 = .ok (.bipush 97, 2) := by decide +kernel
theorem dX11_init_286 : decode cX11_init 286 = .ok (.castore, 1) := by decide +kernel
theorem dX11_init_287 : decode cX11_init 287 = .ok (.dup, 1) := by decide +kernel
theorem dX11_init_288 : decode cX11_init 288 = .ok (.bipush 18, 2) := by decide +kernel
theorem dX11_init_290 : decode cX11_init 290 = .ok (.bipush 121, 2) := by decide +kernel
theorem dX11_init_292 : decode cX11_init 292 = .ok (.castore, 1) := by decide +kernel
theorem dX11_init_293 : decode cX11_init 293 = .ok (.putfield 78, 3) := by decide +kernel
theorem dX11_init_296 : decode cX11_init 296 = .ok (.aload_n 0, 1) := by decide +kernel
theorem dX11_init_297 : decode cX11_init 297 = .ok (.iconst 5, 1) := by decide +kernel
theorem dX11_init_298 : decode cX11_init 298 = .ok (.newarray .int, 2) := by decide +kernel
theorem dX11_init_300 : decode cX11_init 300 = .ok (.dup, 1) := by decide +kernel
theorem dX11_init_301 : decode cX11_init 301 = .ok (.iconst 0, 1) := by decide +kernel
theorem dX11_init_302 : decode cX11_init 302 = .ok (.iconst 0, 1) := by decide +kernel
theorem dX11_init_303 : decode cX11_init 303 = .ok (.iastore, 1) := by decide +kernel
theorem dX11_init_304 : decode cX11_init 304 = .ok (.dup, 1) := by decide +kernel
theorem dX11_init_305 : decode cX11_init 305 = .ok (.iconst 1, 1) := by decide +kernel
theorem dX11_init_306 : decode cX11_init 306 = .ok (.iconst 4, 1) := by decide +kernel
theorem dX11_init_307 : decode cX11_init 307 = .ok (.iastore, 1) := by decide +kernel
theorem dX11_init_308 : decode cX11_init 308 = .ok (.dup, 1) := by decide +kernel
theorem dX11_init_309 : decode cX11_init 309 = .ok (.iconst 2, 1) := by decide +kernel
theorem dX11_init_310 : decode cX11_init 310 = .ok (.bipush 8, 2) := by decide +kernel
theorem dX11_init_312 : decode cX11_init 312 = .ok (.iastore, 1) := by decide +kernel
theorem dX11_init_313 : decode cX11_init 313 = .ok (.dup, 1) := by decide +kernel
theorem dX11_init_314 : decode cX11_init 314 = .ok (.iconst 3, 1) := by decide +kernel
theorem dX11_init_315 : decode cX11_init 315 = .ok (.bipush 12, 2) := by decide +kernel
theorem dX11_init_317 : decode cX11_init 317 = .ok (.iastore, 1) := by decide +kernel
theorem dX11_init_318 : decode cX11_init 318 = .ok (.dup, 1) := by decide +kernel
theorem dX11_init_319 : decode cX11_init 319 = .ok (.iconst 4, 1) := by decide +kernel
theorem dX11_init_320 : decode cX11_init 320 = .ok (.bipush 16, 2) := by decide +kernel
theorem dX11_init_322 : decode cX11_init 322 = .ok (.iastore, 1) := by decide +kernel
theorem dX11_init_323 : decode cX11_init 323 = .ok (.putfield 82, 3) := by decide +kernel
theorem dX11_init_326 : decode cX11_init 326 = .ok (.aload_n 0, 1) := by decide +kernel
theorem dX11_init_327 : decode cX11_init 327 = .ok (.iconst 5, 1) := by decide +kernel
theorem dX11_init_328 : decode cX11_init 328 = .ok (.newarray .int, 2) := by decide +kernel
theorem dX11_init_330 : decode cX11_init 330 = .ok (.dup, 1) := by decide +kernel
theorem dX11_init_331 : decode cX11_init 331 = .ok (.iconst 0, 1) := by decide +kernel
theorem dX11_init_332 : decode cX11_init 332 = .ok (.iconst 4, 1) := by decide +kernel
theorem dX11_init_333 : decode cX11_init 333 = .ok (.iastore, 1) := by decide +kernel
theorem dX11_init_334 : decode cX11_init 334 = .ok (.dup, 1) := by decide +kernel
theorem dX11_init_335 : decode cX11_init 335 = .ok (.iconst 1, 1) := by decide +kernel
theorem dX11_init_336 : decode cX11_init 336 = .ok (.iconst 4, 1) := by decide +kernel
theorem dX11_init_337 : decode cX11_init 337 = .ok (.iastore, 1) := by decide +kernel
theorem dX11_init_338 : decode cX11_init 338 = .ok (.dup, 1) := by decide +kernel
theorem dX11_init_339 : decode cX11_init 339 = .ok (.iconst 2, 1) := by decide +kernel
theorem dX11_init_340 : decode cX11_init 340 = .ok (.iconst 4, 1) := by decide +kernel
theorem dX11_init_341 : decode cX11_init 341 = .ok (.iastore, 1) := by decide +kernel
theorem dX11_init_342 : decode cX11_init 342 = .ok (.dup, 1) := by decide +kernel
theorem dX11_init_343 : decode cX11_init 343 = .ok (.iconst 3, 1) := by decide +kernel
theorem dX11_init_344 : decode cX11_init 344 = .ok (.iconst 4, 1) := by decide +kernel
theorem dX11_init_345 : decode cX11_init 345 = .ok (.iastore, 1) := by decide +kernel
theorem dX11_init_346 : decode cX11_init 346 = .ok (.dup, 1) := by decide +kernel
theorem dX11_init_347 : decode cX11_init 347 = .ok (.iconst 4, 1) := by decide +kernel
theorem dX11_init_348 : decode cX11_init 348 = .ok (.iconst 3, 1) := by decide +kernel
theorem dX11_init_349 : decode cX11_init 349 = .ok (.iastore, 1) := by decide +kernel
theorem dX11_init_350 : decode cX11_init 350 = .ok (.putfield 85, 3) := by decide +kernel
theorem dX11_init_353 : decode cX11_init 353 = .ok (.aload_n 0, 1) := by decide +kernel
theorem dX11_init_354 : decode cX11_init 354 = .ok (.bipush 8, 2) := by decide +kernel
theorem dX11_init_356 : decode cX11_init 356 = .ok (.newarray .int, 2) := by decide +kernel
theorem dX11_init_358 : decode cX11_init 358 = .ok (.putfield 88, 3) := by decide +kernel
theorem dX11_init_361 : decode cX11_init 361 = .ok (.aload_n 0, 1) := by decide +kernel
theorem dX11_init_362 : decode cX11_init 362 = .ok (.iconst 4, 1) := by decide +kernel
theorem dX11_init_363 : decode cX11_init 363 = .ok (.putfield 91, 3) := by decide +kernel
theorem dX11_init_366 : decode cX11_init 366 = .ok (.aload_n 0, 1) := by decide +kernel
theorem dX11_init_367 : decode cX11_init 367 = .ok (.bipush 20, 2) := by decide +kernel
theorem dX11_init_369 : decode cX11_init 369 = .ok (.putfield 95, 3) := by decide +kernel
theorem dX11_init_372 : decode cX11_init 372 = .ok (.aload_n 0, 1) := by decide +kernel
theorem dX11_init_373 : decode cX11_init 373 = .ok (.iconst 4, 1) := by decide +kernel
theorem dX11_init_374 : decode cX11_init 374 = .ok (.newarray .int, 2) := by decide +kernel
theorem dX11_init_376 : decode cX11_init 376 = .ok (.putfield 98, 3) := by decide +kernel
theorem dX11_init_379 : decode cX11_init 379 = .ok (.aload_n 0, 1) := by decide +kernel
theorem dX11_init_380 : decode cX11_init 380 = .ok (.iconst 4, 1) := by decide +kernel
theorem dX11_init_381 : decode cX11_init 381 = .ok (.newarray .int, 2) := by decide +kernel
theorem dX11_init_383 : decode cX11_init 383 = .ok (.putfield 101, 3) := by decide +kernel
theorem dX11_init_386 : decode cX11_init 386 = .ok (.aload_n 0, 1) := by decide +kernel
theorem dX11_init_387 : decode cX11_init 387 = .ok (.sipush 144, 3) := by decide +kernel
theorem dX11_init_390 : decode cX11_init 390 = .ok (.newarray .boolean, 2) := by decide +kernel
theorem dX11_init_392 : decode cX11_init 392 = .ok (.putfield 104, 3) := by decide +kernel
theorem dX11_init_395 : decode cX11_init 395 = .ok (.aload_n 0, 1) := by decide +kernel
theorem dX11_init_396 : decode cX11_init 396 = .ok (.bipush 9, 2) := by decide +kernel
theorem dX11_init_398 : decode cX11_init 398 = .ok (.newarray .boolean, 2) := by decide +kernel
theorem dX11_init_400 : decode cX11_init 400 = .ok (.putfield 107, 3) := by decide +kernel
theorem dX11_init_403 : decode cX11_init 403 = .ok (.aload_n 0, 1) := by decide +kernel
theorem dX11_init_404 : decode cX11_init 404 = .ok (.bipush 81, 2) := by decide +kernel
theorem dX11_init_406 : decode cX11_init 406 = .ok (.newarray .int, 2) := by decide +kernel
theorem dX11_init_408 : decode cX11_init 408 = .ok (.putfield 110, 3) := by decide +kernel
theorem dX11_init_411 : decode cX11_init 411 = .ok (.aload_n 0, 1) := by decide +kernel
theorem dX11_init_412 : decode cX11_init 412 = .ok (.sipush 4608, 3) := by decide +kernel
theorem dX11_init_415 : decode cX11_init 415 = .ok (.newarray .int, 2) := by decide +kernel
theorem dX11_init_417 : decode cX11_init 417 = .ok (.putfield 113, 3) := by decide +kernel
theorem dX11_init_420 : decode cX11_init 420 = .ok (.aload_n 0, 1) := by decide +kernel
theorem dX11_init_421 : decode cX11_init 421 = .ok (.bipush 9, 2) := by decide +kernel
theorem dX11_init_423 : decode cX11_init 423 = .ok (.newarray .int, 2) := by decide +kernel
theorem dX11_init_425 : decode cX11_init 425 = .ok (.putfield 116, 3) := by decide +kernel
theorem dX11_init_428 : decode cX11_init 428 = .ok (.aload_n 0, 1) := by decide +kernel
theorem dX11_init_429 : decode cX11_init 429 = .ok (.bipush 96, 2) := by decide +kernel
theorem dX11_init_431 : decode cX11_init 431 = .ok (.newarray .int, 2) := by decide +kernel
theorem dX11_init_433 : decode cX11_init 433 = .ok (.putfield 119, 3) := by decide +kernel
theorem dX11_init_436 : decode cX11_init 436 = .ok (.aload_n 0, 1) := by decide +kernel
theorem dX11_init_437 : decode cX11_init 437 = .ok (.bipush 96, 2) := by decide +kernel
theorem dX11_init_439 : decode cX11_init 439 = .ok (.newarray .int, 2) := by decide +kernel
theorem dX11_init_441 : decode cX11_init 441 = .ok (.putfield 122, 3) := by decide +kernel
theorem dX11_init_444 : decode cX11_init 444 = .ok (.aload_n 0, 1) := by decide +kernel
theorem dX11_init_445 : decode cX11_init 445 = .ok (.bipush 8, 2) := by decide +kernel
theorem dX11_init_447 : decode cX11_init 447 = .ok (.newarray .int, 2) := by decide +kernel
theorem dX11_init_449 : decode cX11_init 449 = .ok (.putfield 125, 3) := by decide +kernel
theorem dX11_init_452 : decode cX11_init 452 = .ok (.aload_n 0, 1) := by decide +kernel
theorem dX11_init_453 : decode cX11_init 453 = .ok (.bipush 16, 2) := by decide +kernel
theorem dX11_init_455 : decode cX11_init 455 = .ok (.newarray .int, 2) := by decide +kernel
theorem dX11_init_457 : decode cX11_init 457 = .ok (.putfield 128, 3) := by decide +kernel
theorem dX11_init_460 : decode cX11_init 460 = .ok (.aload_n 0, 1) := by decide +kernel
theorem dX11_init_461 : decode cX11_init 461 = .ok (.iconst 2, 1) := by decide +kernel
theorem dX11_init_462 : decode cX11_init 462 = .ok (.putfield 131, 3) := by decide +kernel
theorem dX11_init_465 : decode cX11_init 465 = .ok (.return_, 1) := by decide +kernel
theorem dX11_isIn_0 : decode cX11_isIn 0 = .ok (.lload_n 0, 1) := by decide +kernel
theorem dX11_isIn_1 : decode cX11_isIn 1 = .ok (.lload_n 2, 1) := by decide +kernel
theorem dX11_isIn_2 : decode cX11_isIn 2 = .ok (.lcmp, 1) := by decide +kernel
theorem dX11_isIn_3 : decode cX11_isIn 3 = .ok (.ifCond .lt 14, 3) := by decide +kernel
theorem dX11_isIn_6 : decode cX11_isIn 6 = .ok (.lload_n 0, 1) := by decide +kernel
theorem dX11_isIn_7 : decode cX11_isIn 7 = .ok (.lload 4, 2) := by decide +kernel
theorem dX11_isIn_9 : decode cX11_isIn 9 = .ok (.lcmp, 1) := by decide +kernel
theorem dX11_isIn_10 : decode cX11_isIn 10 = .ok (.ifCond .gt 7, 3) := by decide +kernel
theorem dX11_isIn_13 : decode cX11_isIn 13 = .ok (.iconst 1, 1) := by decide +kernel
theorem dX11_isIn_14 : decode cX11_isIn 14 = .ok (.goto 4, 3) := by decide +kernel
theorem dX11_isIn_17 : decode cX11_isIn 17 = .ok (.iconst 0, 1) := by decide +kernel
theorem dX11_isIn_18 : decode cX11_isIn 18 = .ok (.ireturn, 1) := by decide +kernel
theorem dX11_up_0 : decode cX11_up 0 = .ok (.iload_n 0, 1) := by decide +kernel
theorem dX11_up_1 : decode cX11_up 1 = .ok (.iload_n 1, 1) := by decide +kernel
theorem dX11_up_2 : decode cX11_up 2 = .ok (.iadd, 1) := by decide +kernel
theorem dX11_up_3 : decode cX11_up 3 = .ok (.iconst 1, 1) := by decide +kernel
theorem dX11_up_4 : decode cX11_up 4 = .ok (.isub, 1) := by decide +kernel
theorem dX11_up_5 : decode cX11_up 5 = .ok (.iload_n 1, 1) := by decide +kernel
theorem dX11_up_6 : decode cX11_up 6 = .ok (.idiv, 1) := by decide +kernel
theorem dX11_up_7 : decode cX11_up 7 = .ok (.ireturn, 1) := by decide +kernel
theorem dX11_isChoir_0 : decode cX11_isChoir 0 = .ok (.iload_n 1, 1) := by decide +kernel
theorem dX11_isChoir_1 : decode cX11_isChoir 1 = .ok (.ifCond .lt 15, 3) := by decide +kernel
theorem dX11_isChoir_4 : decode cX11_isChoir 4 = .ok (.iload_n 1, 1) := by decide +kernel
theorem dX11_isChoir_5 : decode cX11_isChoir 5 = .ok (.aload_n 0, 1) := by decide +kernel
theorem dX11_isChoir_6 : decode cX11_isChoir 6 = .ok (.getfield 134, 3) := by decide +kernel
theorem dX11_isChoir_9 : decode cX11_isChoir 9 = .ok (.if_icmp .ge 7, 3) := by decide +kernel
theorem dX11_isChoir_12 : decode cX11_isChoir 12 = .ok (.iconst 1, 1) := by decide +kernel
theorem dX11_isChoir_13 : decode cX11_isChoir 13 = .ok (.goto 4, 3) := by decide +kernel
theorem dX11_isChoir_16 : decode cX11_isChoir 16 = .ok (.iconst 0, 1) := by decide +kernel
theorem dX11_isChoir_17 : decode cX11_isChoir 17 = .ok (.ireturn, 1) := by decide +kernel
theorem dX11_isSong_0 : decode cX11_isSong 0 = .ok (.iload_n 1, 1) := by decide +kernel
theorem dX11_isSong_1 : decode cX11_isSong 1 = .ok (.ifCond .lt 15, 3) := by decide +kernel
theorem dX11_isSong_4 : decode cX11_isSong 4 = .ok (.iload_n 1, 1) := by decide +kernel
theorem dX11_isSong_5 : decode cX11_isSong 5 = .ok (.aload_n 0, 1) := by decide +kernel
theorem dX11_isSong_6 : decode cX11_isSong 6 = .ok (.getfield 137, 3) := by decide +kernel
theorem dX11_isSong_9 : decode cX11_isSong 9 = .ok (.if_icmp .ge 7, 3) := by decide +kernel
theorem dX11_isSong_12 : decode cX11_isSong 12 = .ok (.iconst 1, 1) := by decide +kernel
theorem dX11_isSong_13 : decode cX11_isSong 13 = .ok (.goto 4, 3) := by decide +kernel
theorem dX11_isSong_16 : decode cX11_isSong 16 = .ok (.iconst 0, 1) := by decide +kernel
theorem dX11_isSong_17 : decode cX11_isSong 17 = .ok (.ireturn, 1) := by decide +kernel
theorem dX11_isJudge_0 : decode cX11_isJudge 0 = .ok (.iload_n 1, 1) := by decide +kernel
theorem dX11_isJudge_1 : decode cX11_isJudge 1 = .ok (.ifCond .lt 15, 3) := by decide +kernel
theorem dX11_isJudge_4 : decode cX11_isJudge 4 = .ok (.iload_n 1, 1) := by decide +kernel
theorem dX11_isJudge_5 : decode cX11_isJudge 5 = .ok (.aload_n 0, 1) := by decide +kernel
theorem dX11_isJudge_6 : decode cX11_isJudge 6 = .ok (.getfield 140, 3) := by decide +kernel
theorem dX11_isJudge_9 : decode cX11_isJudge 9 = .ok (.if_icmp .ge 7, 3) := by decide +kernel
theorem dX11_isJudge_12 : decode cX11_isJudge 12 = .ok (.iconst 1, 1) := by decide +kernel
theorem dX11_isJudge_13 : decode cX11_isJudge 13 = .ok (.goto 4, 3) := by decide +kernel
theorem dX11_isJudge_16 : decode cX11_isJudge 16 = .ok (.iconst 0, 1) := by decide +kernel
theorem dX11_isJudge_17 : decode cX11_isJudge 17 = .ok (.ireturn, 1) := by decide +kernel
theorem dX11_isTown_0 : decode cX11_isTown 0 = .ok (.iload_n 0, 1) := by decide +kernel
theorem dX11_isTown_1 : decode cX11_isTown 1 = .ok (.i2l, 1) := by decide +kernel
theorem dX11_isTown_2 : decode cX11_isTown 2 = .ok (.lconst 0, 1) := by decide +kernel
theorem dX11_isTown_3 : decode cX11_isTown 3 = .ok (.ldc2_w 143, 3) := by decide +kernel
theorem dX11_isTown_6 : decode cX11_isTown 6 = .ok (.invokestatic 145, 3) := by decide +kernel
theorem dX11_isTown_9 : decode cX11_isTown 9 = .ok (.ireturn, 1) := by decide +kernel
theorem dX11_digits_0 : decode cX11_digits 0 = .ok (.iload_n 1, 1) := by decide +kernel
theorem dX11_digits_1 : decode cX11_digits 1 = .ok (.ifCond .ne 10, 3) := by decide +kernel
theorem dX11_digits_4 : decode cX11_digits 4 = .ok (.iload_n 0, 1) := by decide +kernel
theorem dX11_digits_5 : decode cX11_digits 5 = .ok (.ldc 149, 2) := by decide +kernel
theorem dX11_digits_7 : decode cX11_digits 7 = .ok (.idiv, 1) := by decide +kernel
theorem dX11_digits_8 : decode cX11_digits 8 = .ok (.goto 38, 3) := by decide +kernel
theorem dX11_digits_11 : decode cX11_digits 11 = .ok (.iload_n 1, 1) := by decide +kernel
theorem dX11_digits_12 : decode cX11_digits 12 = .ok (.iconst 1, 1) := by decide +kernel
theorem dX11_digits_13 : decode cX11_digits 13 = .ok (.if_icmp .ne 14, 3) := by decide +kernel
theorem dX11_digits_16 : decode cX11_digits 16 = .ok (.iload_n 0, 1) := by decide +kernel
theorem dX11_digits_17 : decode cX11_digits 17 = .ok (.sipush 10000, 3) := by decide +kernel
theorem dX11_digits_20 : decode cX11_digits 20 = .ok (.idiv, 1) := by decide +kernel
theorem dX11_digits_21 : decode cX11_digits 21 = .ok (.bipush 100, 2) := by decide +kernel
theorem dX11_digits_23 : decode cX11_digits 23 = .ok (.irem, 1) := by decide +kernel
theorem dX11_digits_24 : decode cX11_digits 24 = .ok (.goto 22, 3) := by decide +kernel
theorem dX11_digits_27 : decode cX11_digits 27 = .ok (.iload_n 1, 1) := by decide +kernel
theorem dX11_digits_28 : decode cX11_digits 28 = .ok (.iconst 2, 1) := by decide +kernel
theorem dX11_digits_29 : decode cX11_digits 29 = .ok (.if_icmp .ne 13, 3) := by decide +kernel
theorem dX11_digits_32 : decode cX11_digits 32 = .ok (.iload_n 0, 1) := by decide +kernel
theorem dX11_digits_33 : decode cX11_digits 33 = .ok (.bipush 100, 2) := by decide +kernel
theorem dX11_digits_35 : decode cX11_digits 35 = .ok (.idiv, 1) := by decide +kernel
theorem dX11_digits_36 : decode cX11_digits 36 = .ok (.bipush 100, 2) := by decide +kernel
theorem dX11_digits_38 : decode cX11_digits 38 = .ok (.irem, 1) := by decide +kernel
theorem dX11_digits_39 : decode cX11_digits 39 = .ok (.goto 7, 3) := by decide +kernel
theorem dX11_digits_42 : decode cX11_digits 42 = .ok (.iload_n 0, 1) := by decide +kernel
theorem dX11_digits_43 : decode cX11_digits 43 = .ok (.bipush 100, 2) := by decide +kernel
theorem dX11_digits_45 : decode cX11_digits 45 = .ok (.irem, 1) := by decide +kernel
theorem dX11_digits_46 : decode cX11_digits 46 = .ok (.ireturn, 1) := by decide +kernel
theorem dX11_suits_0 : decode cX11_suits 0 = .ok (.iload_n 1, 1) := by decide +kernel
theorem dX11_suits_1 : decode cX11_suits 1 = .ok (.iconst 0, 1) := by decide +kernel
theorem dX11_suits_2 : decode cX11_suits 2 = .ok (.invokestatic 150, 3) := by decide +kernel
theorem dX11_suits_5 : decode cX11_suits 5 = .ok (.iload_n 1, 1) := by decide +kernel
theorem dX11_suits_6 : decode cX11_suits 6 = .ok (.iconst 1, 1) := by decide +kernel
theorem dX11_suits_7 : decode cX11_suits 7 = .ok (.invokestatic 150, 3) := by decide +kernel
theorem dX11_suits_10 : decode cX11_suits 10 = .ok (.iadd, 1) := by decide +kernel
theorem dX11_suits_11 : decode cX11_suits 11 = .ok (.istore_n 3, 1) := by decide +kernel
theorem dX11_suits_12 : decode cX11_suits 12 = .ok (.iload_n 1, 1) := by decide +kernel
theorem dX11_suits_13 : decode cX11_suits 13 = .ok (.iconst 2, 1) := by decide +kernel
theorem dX11_suits_14 : decode cX11_suits 14 = .ok (.invokestatic 150, 3) := by decide +kernel
theorem dX11_suits_17 : decode cX11_suits 17 = .ok (.iload_n 1, 1) := by decide +kernel
theorem dX11_suits_18 : decode cX11_suits 18 = .ok (.iconst 3, 1) := by decide +kernel
theorem dX11_suits_19 : decode cX11_suits 19 = .ok (.invokestatic 150, 3) := by decide +kernel
theorem dX11_suits_22 : decode cX11_suits 22 = .ok (.iadd, 1) := by decide +kernel
theorem dX11_suits_23 : decode cX11_suits 23 = .ok (.istore 4, 2) := by decide +kernel
theorem dX11_suits_25 : decode cX11_suits 25 = .ok (.iload_n 0, 1) := by decide +kernel
theorem dX11_suits_26 : decode cX11_suits 26 = .ok (.iconst 5, 1) := by decide +kernel
theorem dX11_suits_27 : decode cX11_suits 27 = .ok (.if_icmp .ne 15, 3) := by decide +kernel
theorem dX11_suits_30 : decode cX11_suits 30 = .ok (.iload_n 1, 1) := by decide +kernel
theorem dX11_suits_31 : decode cX11_suits 31 = .ok (.ifCond .ne 7, 3) := by decide +kernel
theorem dX11_suits_34 : decode cX11_suits 34 = .ok (.iconst 1, 1) := by decide +kernel
theorem dX11_suits_35 : decode cX11_suits 35 = .ok (.goto 16, 3) := by decide +kernel
theorem dX11_suits_38 : decode cX11_suits 38 = .ok (.iconst 0, 1) := by decide +kernel
theorem dX11_suits_39 : decode cX11_suits 39 = .ok (.goto 12, 3) := by decide +kernel
theorem dX11_suits_42 : decode cX11_suits 42 = .ok (.iload_n 1, 1) := by decide +kernel
theorem dX11_suits_43 : decode cX11_suits 43 = .ok (.i2l, 1) := by decide +kernel
theorem dX11_suits_44 : decode cX11_suits 44 = .ok (.lconst 1, 1) := by decide +kernel
theorem dX11_suits_45 : decode cX11_suits 45 = .ok (.ldc2_w 154, 3) := by decide +kernel
theorem dX11_suits_48 : decode cX11_suits 48 = .ok (.invokestatic 145, 3) := by decide +kernel
theorem dX11_suits_51 : decode cX11_suits 51 = .ok (.istore 5, 2) := by decide +kernel
theorem dX11_suits_53 : decode cX11_suits 53 = .ok (.iload 5, 2) := by decide +kernel
theorem dX11_suits_55 : decode cX11_suits 55 = .ok (.ifCond .eq 55, 3) := by decide +kernel
theorem dX11_suits_58 : decode cX11_suits 58 = .ok (.iload_n 0, 1) := by decide +kernel
theorem dX11_suits_59 : decode cX11_suits 59 = .ok (.iconst 1, 1) := by decide +kernel
theorem dX11_suits_60 : decode cX11_suits 60 = .ok (.if_icmp .ne 7, 3) := by decide +kernel
theorem dX11_suits_63 : decode cX11_suits 63 = .ok (.iload_n 3, 1) := by decide +kernel
theorem dX11_suits_64 : decode cX11_suits 64 = .ok (.ifCond .ne 46, 3) := by decide +kernel
theorem dX11_suits_67 : decode cX11_suits 67 = .ok (.iload_n 0, 1) := by decide +kernel
theorem dX11_suits_68 : decode cX11_suits 68 = .ok (.iconst 2, 1) := by decide +kernel
theorem dX11_suits_69 : decode cX11_suits 69 = .ok (.if_icmp .ne 8, 3) := by decide +kernel
theorem dX11_suits_72 : decode cX11_suits 72 = .ok (.iload 4, 2) := by decide +kernel
theorem dX11_suits_74 : decode cX11_suits 74 = .ok (.ifCond .ne 36, 3) := by decide +kernel
theorem dX11_suits_77 : decode cX11_suits 77 = .ok (.iload_n 0, 1) := by decide +kernel
theorem dX11_suits_78 : decode cX11_suits 78 = .ok (.iconst 5, 1) := by decide +kernel
theorem dX11_suits_79 : decode cX11_suits 79 = .ok (.if_icmp .eq 27, 3) := by decide +kernel
theorem dX11_suits_82 : decode cX11_suits 82 = .ok (.iload_n 0, 1) := by decide +kernel
theorem dX11_suits_83 : decode cX11_suits 83 = .ok (.iconst 4, 1) := by decide +kernel
theorem dX11_suits_84 : decode cX11_suits 84 = .ok (.if_icmp .ne 18, 3) := by decide +kernel
theorem dX11_suits_87 : decode cX11_suits 87 = .ok (.iload_n 2, 1) := by decide +kernel
theorem dX11_suits_88 : decode cX11_suits 88 = .ok (.i2l, 1) := by decide +kernel
theorem dX11_suits_89 : decode cX11_suits 89 = .ok (.lconst 0, 1) := by decide +kernel
theorem dX11_suits_90 : decode cX11_suits 90 = .ok (.ldc2_w 156, 3) := by decide +kernel
theorem dX11_suits_93 : decode cX11_suits 93 = .ok (.invokestatic 145, 3) := by decide +kernel
theorem dX11_suits_96 : decode cX11_suits 96 = .ok (.ifCond .eq 14, 3) := by decide +kernel
theorem dX11_suits_99 : decode cX11_suits 99 = .ok (.goto 7, 3) := by decide +kernel
theorem dX11_suits_102 : decode cX11_suits 102 = .ok (.iload_n 2, 1) := by decide +kernel
theorem dX11_suits_103 : decode cX11_suits 103 = .ok (.ifCond .ne 7, 3) := by decide +kernel
theorem dX11_suits_106 : decode cX11_suits 106 = .ok (.iconst 1, 1) := by decide +kernel
theorem dX11_suits_107 : decode cX11_suits 107 = .ok (.goto 4, 3) := by decide +kernel
theorem dX11_suits_110 : decode cX11_suits 110 = .ok (.iconst 0, 1) := by decide +kernel
theorem dX11_suits_111 : decode cX11_suits 111 = .ok (.ireturn, 1) := by decide +kernel
theorem dX11_choir_0 : decode cX11_choir 0 = .ok (.iload 4, 2) := by decide +kernel
theorem dX11_choir_2 : decode cX11_choir 2 = .ok (.bipush 16, 2) := by decide +kernel
theorem dX11_choir_4 : decode cX11_choir 4 = .ok (.idiv, 1) := by decide +kernel
theorem dX11_choir_5 : decode cX11_choir 5 = .ok (.istore 5, 2) := by decide +kernel
theorem dX11_choir_7 : decode cX11_choir 7 = .ok (.iload 4, 2) := by decide +kernel
theorem dX11_choir_9 : decode cX11_choir 9 = .ok (.bipush 16, 2) := by decide +kernel
theorem dX11_choir_11 : decode cX11_choir 11 = .ok (.irem, 1) := by decide +kernel
theorem dX11_choir_12 : decode cX11_choir 12 = .ok (.istore 6, 2) := by decide +kernel
theorem dX11_choir_14 : decode cX11_choir 14 = .ok (.iload_n 2, 1) := by decide +kernel
theorem dX11_choir_15 : decode cX11_choir 15 = .ok (.invokestatic 158, 3) := by decide +kernel
theorem dX11_choir_18 : decode cX11_choir 18 = .ok (.ifCond .eq 31, 3) := by decide +kernel
theorem dX11_choir_21 : decode cX11_choir 21 = .ok (.iload_n 1, 1) := by decide +kernel
theorem dX11_choir_22 : decode cX11_choir 22 = .ok (.iconst 5, 1) := by decide +kernel
theorem dX11_choir_23 : decode cX11_choir 23 = .ok (.if_icmp .ne 28, 3) := by decide +kernel
theorem dX11_choir_26 : decode cX11_choir 26 = .ok (.iload 4, 2) := by decide +kernel
theorem dX11_choir_28 : decode cX11_choir 28 = .ok (.ifCond .lt 21, 3) := by decide +kernel
theorem dX11_choir_31 : decode cX11_choir 31 = .ok (.aload_n 0, 1) := by decide +kernel
theorem dX11_choir_32 : decode cX11_choir 32 = .ok (.iload 5, 2) := by decide +kernel
theorem dX11_choir_34 : decode cX11_choir 34 = .ok (.invokevirtual 162, 3) := by decide +kernel
theorem dX11_choir_37 : decode cX11_choir 37 = .ok (.ifCond .eq 12, 3) := by decide +kernel
theorem dX11_choir_40 : decode cX11_choir 40 = .ok (.aload_n 0, 1) := by decide +kernel
theorem dX11_choir_41 : decode cX11_choir 41 = .ok (.iload 6, 2) := by decide +kernel
theorem dX11_choir_43 : decode cX11_choir 43 = .ok (.invokevirtual 162, 3) := by decide +kernel
theorem dX11_choir_46 : decode cX11_choir 46 = .ok (.ifCond .ne 5, 3) := by decide +kernel
theorem dX11_choir_49 : decode cX11_choir 49 = .ok (.iconst (-1), 1) := by decide +kernel
theorem dX11_choir_50 : decode cX11_choir 50 = .ok (.ireturn, 1) := by decide +kernel
theorem dX11_choir_51 : decode cX11_choir 51 = .ok (.iload_n 1, 1) := by decide +kernel
theorem dX11_choir_52 : decode cX11_choir 52 = .ok (.i2l, 1) := by decide +kernel
theorem dX11_choir_53 : decode cX11_choir 53 = .ok (.lconst 0, 1) := by decide +kernel
theorem dX11_choir_54 : decode cX11_choir 54 = .ok (.ldc2_w 165, 3) := by decide +kernel
theorem dX11_choir_57 : decode cX11_choir 57 = .ok (.invokestatic 145, 3) := by decide +kernel
theorem dX11_choir_60 : decode cX11_choir 60 = .ok (.ifCond .eq 47, 3) := by decide +kernel
theorem dX11_choir_63 : decode cX11_choir 63 = .ok (.iload_n 1, 1) := by decide +kernel
theorem dX11_choir_64 : decode cX11_choir 64 = .ok (.iload_n 3, 1) := by decide +kernel
theorem dX11_choir_65 : decode cX11_choir 65 = .ok (.iload 4, 2) := by decide +kernel
theorem dX11_choir_67 : decode cX11_choir 67 = .ok (.invokestatic 167, 3) := by decide +kernel
theorem dX11_choir_70 : decode cX11_choir 70 = .ok (.ifCond .eq 37, 3) := by decide +kernel
theorem dX11_choir_73 : decode cX11_choir 73 = .ok (.iload_n 1, 1) := by decide +kernel
theorem dX11_choir_74 : decode cX11_choir 74 = .ok (.iconst 5, 1) := by decide +kernel
theorem dX11_choir_75 : decode cX11_choir 75 = .ok (.if_icmp .ne 35, 3) := by decide +kernel
theorem dX11_choir_78 : decode cX11_choir 78 = .ok (.iload 5, 2) := by decide +kernel
theorem dX11_choir_80 : decode cX11_choir 80 = .ok (.iload 6, 2) := by decide +kernel
theorem dX11_choir_82 : decode cX11_choir 82 = .ok (.if_icmp .eq 25, 3) := by decide +kernel
theorem dX11_choir_85 : decode cX11_choir 85 = .ok (.aload_n 0, 1) := by decide +kernel
theorem dX11_choir_86 : decode cX11_choir 86 = .ok (.getfield 7, 3) := by decide +kernel
theorem dX11_choir_89 : decode cX11_choir 89 = .ok (.iload 5, 2) := by decide +kernel
theorem dX11_choir_91 : decode cX11_choir 91 = .ok (.iaload, 1) := by decide +kernel
theorem dX11_choir_92 : decode cX11_choir 92 = .ok (.iconst 5, 1) := by decide +kernel
theorem dX11_choir_93 : decode cX11_choir 93 = .ok (.if_icmp .eq 14, 3) := by decide +kernel
theorem dX11_choir_96 : decode cX11_choir 96 = .ok (.aload_n 0, 1) := by decide +kernel
theorem dX11_choir_97 : decode cX11_choir 97 = .ok (.getfield 7, 3) := by decide +kernel
theorem dX11_choir_100 : decode cX11_choir 100 = .ok (.iload 6, 2) := by decide +kernel
theorem dX11_choir_102 : decode cX11_choir 102 = .ok (.iaload, 1) := by decide +kernel
theorem dX11_choir_103 : decode cX11_choir 103 = .ok (.iconst 5, 1) := by decide +kernel
theorem dX11_choir_104 : decode cX11_choir 104 = .ok (.if_icmp .ne 6, 3) := by decide +kernel
theorem dX11_choir_107 : decode cX11_choir 107 = .ok (.bipush (-2), 2) := by decide +kernel
theorem dX11_choir_109 : decode cX11_choir 109 = .ok (.ireturn, 1) := by decide +kernel
theorem dX11_choir_110 : decode cX11_choir 110 = .ok (.aload_n 0, 1) := by decide +kernel
theorem dX11_choir_111 : decode cX11_choir 111 = .ok (.getfield 134, 3) := by decide +kernel
theorem dX11_choir_114 : decode cX11_choir 114 = .ok (.bipush 16, 2) := by decide +kernel
theorem dX11_choir_116 : decode cX11_choir 116 = .ok (.if_icmp .ne 6, 3) := by decide +kernel
theorem dX11_choir_119 : decode cX11_choir 119 = .ok (.bipush (-4), 2) := by decide +kernel
theorem dX11_choir_121 : decode cX11_choir 121 = .ok (.ireturn, 1) := by decide +kernel
theorem dX11_choir_122 : decode cX11_choir 122 = .ok (.aload_n 0, 1) := by decide +kernel
theorem dX11_choir_123 : decode cX11_choir 123 = .ok (.getfield 7, 3) := by decide +kernel
theorem dX11_choir_126 : decode cX11_choir 126 = .ok (.aload_n 0, 1) := by decide +kernel
theorem dX11_choir_127 : decode cX11_choir 127 = .ok (.getfield 134, 3) := by decide +kernel
theorem dX11_choir_130 : decode cX11_choir 130 = .ok (.iload_n 1, 1) := by decide +kernel
theorem dX11_choir_131 : decode cX11_choir 131 = .ok (.iastore, 1) := by decide +kernel
theorem dX11_choir_132 : decode cX11_choir 132 = .ok (.aload_n 0, 1) := by decide +kernel
theorem dX11_choir_133 : decode cX11_choir 133 = .ok (.getfield 13, 3) := by decide +kernel
theorem dX11_choir_136 : decode cX11_choir 136 = .ok (.aload_n 0, 1) := by decide +kernel
theorem dX11_choir_137 : decode cX11_choir 137 = .ok (.getfield 134, 3) := by decide +kernel
theorem dX11_choir_140 : decode cX11_choir 140 = .ok (.iload_n 1, 1) := by decide +kernel
theorem dX11_choir_141 : decode cX11_choir 141 = .ok (.iconst 5, 1) := by decide +kernel
theorem dX11_choir_142 : decode cX11_choir 142 = .ok (.if_icmp .ne 13, 3) := by decide +kernel
theorem dX11_choir_145 : decode cX11_choir 145 = .ok (.aload_n 0, 1) := by decide +kernel
theorem dX11_choir_146 : decode cX11_choir 146 = .ok (.getfield 13, 3) := by decide +kernel
theorem dX11_choir_149 : decode cX11_choir 149 = .ok (.iload 5, 2) := by decide +kernel
theorem dX11_choir_151 : decode cX11_choir 151 = .ok (.iaload, 1) := by decide +kernel
theorem dX11_choir_152 : decode cX11_choir 152 = .ok (.goto 4, 3) := by decide +kernel
theorem dX11_choir_155 : decode cX11_choir 155 = .ok (.iload_n 2, 1) := by decide +kernel
theorem dX11_choir_156 : decode cX11_choir 156 = .ok (.iastore, 1) := by decide +kernel
theorem dX11_choir_157 : decode cX11_choir 157 = .ok (.iconst 0, 1) := by decide +kernel
theorem dX11_choir_158 : decode cX11_choir 158 = .ok (.istore 7, 2) := by decide +kernel
theorem dX11_choir_160 : decode cX11_choir 160 = .ok (.iload 7, 2) := by decide +kernel
theorem dX11_choir_162 : decode cX11_choir 162 = .ok (.iconst 4, 1) := by decide +kernel
theorem dX11_choir_163 : decode cX11_choir 163 = .ok (.if_icmp .ge 62, 3) := by decide +kernel
theorem dX11_choir_166 : decode cX11_choir 166 = .ok (.aload_n 0, 1) := by decide +kernel
theorem dX11_choir_167 : decode cX11_choir 167 = .ok (.getfield 16, 3) := by decide +kernel
theorem dX11_choir_170 : decode cX11_choir 170 = .ok (.iconst 4, 1) := by decide +kernel
theorem dX11_choir_171 : decode cX11_choir 171 = .ok (.aload_n 0, 1) := by decide +kernel
theorem dX11_choir_172 : decode cX11_choir 172 = .ok (.getfield 134, 3) := by decide +kernel
theorem dX11_choir_175 : decode cX11_choir 175 = .ok (.imul, 1) := by decide +kernel
theorem dX11_choir_176 : decode cX11_choir 176 = .ok (.iload 7, 2) := by decide +kernel
theorem dX11_choir_178 : decode cX11_choir 178 = .ok (.iadd, 1) := by decide +kernel
theorem dX11_choir_179 : decode cX11_choir 179 = .ok (.iload_n 1, 1) := by decide +kernel
theorem dX11_choir_180 : decode cX11_choir 180 = .ok (.iconst 5, 1) := by decide +kernel
theorem dX11_choir_181 : decode cX11_choir 181 = .ok (.if_icmp .ne 31, 3) := by decide +kernel
theorem dX11_choir_184 : decode cX11_choir 184 = .ok (.aload_n 0, 1) := by decide +kernel
theorem dX11_choir_185 : decode cX11_choir 185 = .ok (.getfield 16, 3) := by decide +kernel
theorem dX11_choir_188 : decode cX11_choir 188 = .ok (.iconst 4, 1) := by decide +kernel
theorem dX11_choir_189 : decode cX11_choir 189 = .ok (.iload 5, 2) := by decide +kernel
theorem dX11_choir_191 : decode cX11_choir 191 = .ok (.imul, 1) := by decide +kernel
theorem dX11_choir_192 : decode cX11_choir 192 = .ok (.iload 7, 2) := by decide +kernel
theorem dX11_choir_194 : decode cX11_choir 194 = .ok (.iadd, 1) := by decide +kernel
theorem dX11_choir_195 : decode cX11_choir 195 = .ok (.iaload, 1) := by decide +kernel
theorem dX11_choir_196 : decode cX11_choir 196 = .ok (.aload_n 0, 1) := by decide +kernel
theorem dX11_choir_197 : decode cX11_choir 197 = .ok (.getfield 16, 3) := by decide +kernel
theorem dX11_choir_200 : decode cX11_choir 200 = .ok (.iconst 4, 1) := by decide +kernel
theorem dX11_choir_201 : decode cX11_choir 201 = .ok (.iload 6, 2) := by decide +kernel
theorem dX11_choir_203 : decode cX11_choir 203 = .ok (.imul, 1) := by decide +kernel
theorem dX11_choir_204 : decode cX11_choir 204 = .ok (.iload 7, 2) := by decide +kernel
theorem dX11_choir_206 : decode cX11_choir 206 = .ok (.iadd, 1) := by decide +kernel
theorem dX11_choir_207 : decode cX11_choir 207 = .ok (.iaload, 1) := by decide +kernel
theorem dX11_choir_208 : decode cX11_choir 208 = .ok (.iadd, 1) := by decide +kernel
theorem dX11_choir_209 : decode cX11_choir 209 = .ok (.goto 9, 3) := by decide +kernel
theorem dX11_choir_212 : decode cX11_choir 212 = .ok (.iload_n 3, 1) := by decide +kernel
theorem dX11_choir_213 : decode cX11_choir 213 = .ok (.iload 7, 2) := by decide +kernel
theorem dX11_choir_215 : decode cX11_choir 215 = .ok (.invokestatic 150, 3) := by decide +kernel
theorem dX11_choir_218 : decode cX11_choir 218 = .ok (.iastore, 1) := by decide +kernel
theorem dX11_choir_219 : decode cX11_choir 219 = .ok (.iinc 7 1, 3) := by decide +kernel
theorem dX11_choir_222 : decode cX11_choir 222 = .ok (.goto (-62), 3) := by decide +kernel
theorem dX11_choir_225 : decode cX11_choir 225 = .ok (.aload_n 0, 1) := by decide +kernel
theorem dX11_choir_226 : decode cX11_choir 226 = .ok (.getfield 19, 3) := by decide +kernel
theorem dX11_choir_229 : decode cX11_choir 229 = .ok (.aload_n 0, 1) := by decide +kernel
theorem dX11_choir_230 : decode cX11_choir 230 = .ok (.getfield 134, 3) := by decide +kernel
theorem dX11_choir_233 : decode cX11_choir 233 = .ok (.iload 4, 2) := by decide +kernel
theorem dX11_choir_235 : decode cX11_choir 235 = .ok (.iastore, 1) := by decide +kernel
theorem dX11_choir_236 : decode cX11_choir 236 = .ok (.aload_n 0, 1) := by decide +kernel
theorem dX11_choir_237 : decode cX11_choir 237 = .ok (.getfield 22, 3) := by decide +kernel
theorem dX11_choir_240 : decode cX11_choir 240 = .ok (.aload_n 0, 1) := by decide +kernel
theorem dX11_choir_241 : decode cX11_choir 241 = .ok (.getfield 134, 3) := by decide +kernel
theorem dX11_choir_244 : decode cX11_choir 244 = .ok (.iconst 5, 1) := by decide +kernel
theorem dX11_choir_245 : decode cX11_choir 245 = .ok (.iastore, 1) := by decide +kernel
theorem dX11_choir_246 : decode cX11_choir 246 = .ok (.aload_n 0, 1) := by decide +kernel
theorem dX11_choir_247 : decode cX11_choir 247 = .ok (.getfield 25, 3) := by decide +kernel
theorem dX11_choir_250 : decode cX11_choir 250 = .ok (.aload_n 0, 1) := by decide +kernel
theorem dX11_choir_251 : decode cX11_choir 251 = .ok (.getfield 134, 3) := by decide +kernel
theorem dX11_choir_254 : decode cX11_choir 254 = .ok (.iconst (-1), 1) := by decide +kernel
theorem dX11_choir_255 : decode cX11_choir 255 = .ok (.iastore, 1) := by decide +kernel
theorem dX11_choir_256 : decode cX11_choir 256 = .ok (.aload_n 0, 1) := by decide +kernel
theorem dX11_choir_257 : decode cX11_choir 257 = .ok (.getfield 28, 3) := by decide +kernel
theorem dX11_choir_260 : decode cX11_choir 260 = .ok (.aload_n 0, 1) := by decide +kernel
theorem dX11_choir_261 : decode cX11_choir 261 = .ok (.getfield 134, 3) := by decide +kernel
theorem dX11_choir_264 : decode cX11_choir 264 = .ok (.iconst (-1), 1) := by decide +kernel
theorem dX11_choir_265 : decode cX11_choir 265 = .ok (.iastore, 1) := by decide +kernel
theorem dX11_choir_266 : decode cX11_choir 266 = .ok (.aload_n 0, 1) := by decide +kernel
theorem dX11_choir_267 : decode cX11_choir 267 = .ok (.getfield 31, 3) := by decide +kernel
theorem dX11_choir_270 : decode cX11_choir 270 = .ok (.aload_n 0, 1) := by decide +kernel
theorem dX11_choir_271 : decode cX11_choir 271 = .ok (.getfield 134, 3) := by decide +kernel
theorem dX11_choir_274 : decode cX11_choir 274 = .ok (.iconst (-1), 1) := by decide +kernel
theorem dX11_choir_275 : decode cX11_choir 275 = .ok (.iastore, 1) := by decide +kernel
theorem dX11_choir_276 : decode cX11_choir 276 = .ok (.aload_n 0, 1) := by decide +kernel
theorem dX11_choir_277 : decode cX11_choir 277 = .ok (.getfield 34, 3) := by decide +kernel
theorem dX11_choir_280 : decode cX11_choir 280 = .ok (.aload_n 0, 1) := by decide +kernel
theorem dX11_choir_281 : decode cX11_choir 281 = .ok (.getfield 134, 3) := by decide +kernel
theorem dX11_choir_284 : decode cX11_choir 284 = .ok (.iconst (-1), 1) := by decide +kernel
theorem dX11_choir_285 : decode cX11_choir 285 = .ok (.iastore, 1) := by decide +kernel
theorem dX11_choir_286 : decode cX11_choir 286 = .ok (.aload_n 0, 1) := by decide +kernel
theorem dX11_choir_287 : decode cX11_choir 287 = .ok (.dup, 1) := by decide +kernel
theorem dX11_choir_288 : decode cX11_choir 288 = .ok (.getfield 134, 3) := by decide +kernel
theorem dX11_choir_291 : decode cX11_choir 291 = .ok (.iconst 1, 1) := by decide +kernel
theorem dX11_choir_292 : decode cX11_choir 292 = .ok (.iadd, 1) := by decide +kernel
theorem dX11_choir_293 : decode cX11_choir 293 = .ok (.putfield 134, 3) := by decide +kernel
theorem dX11_choir_296 : decode cX11_choir 296 = .ok (.aload_n 0, 1) := by decide +kernel
theorem dX11_choir_297 : decode cX11_choir 297 = .ok (.getfield 134, 3) := by decide +kernel
theorem dX11_choir_300 : decode cX11_choir 300 = .ok (.iconst 1, 1) := by decide +kernel
theorem dX11_choir_301 : decode cX11_choir 301 = .ok (.isub, 1) := by decide +kernel
theorem dX11_choir_302 : decode cX11_choir 302 = .ok (.ireturn, 1) := by decide +kernel
theorem dX11_day_0 : decode cX11_day 0 = .ok (.iload_n 1, 1) := by decide +kernel
theorem dX11_day_1 : decode cX11_day 1 = .ok (.i2l, 1) := by decide +kernel
theorem dX11_day_2 : decode cX11_day 2 = .ok (.aload_n 0, 1) := by decide +kernel
theorem dX11_day_3 : decode cX11_day 3 = .ok (.getfield 171, 3) := by decide +kernel
theorem dX11_day_6 : decode cX11_day 6 = .ok (.i2l, 1) := by decide +kernel
theorem dX11_day_7 : decode cX11_day 7 = .ok (.ldc2_w 156, 3) := by decide +kernel
theorem dX11_day_10 : decode cX11_day 10 = .ok (.invokestatic 145, 3) := by decide +kernel
theorem dX11_day_13 : decode cX11_day 13 = .ok (.ifCond .ne 6, 3) := by decide +kernel
theorem dX11_day_16 : decode cX11_day 16 = .ok (.bipush (-2), 2) := by decide +kernel
theorem dX11_day_18 : decode cX11_day 18 = .ok (.ireturn, 1) := by decide +kernel
theorem dX11_day_19 : decode cX11_day 19 = .ok (.aload_n 0, 1) := by decide +kernel
theorem dX11_day_20 : decode cX11_day 20 = .ok (.getfield 171, 3) := by decide +kernel
theorem dX11_day_23 : decode cX11_day 23 = .ok (.istore_n 2, 1) := by decide +kernel
theorem dX11_day_24 : decode cX11_day 24 = .ok (.aload_n 0, 1) := by decide +kernel
theorem dX11_day_25 : decode cX11_day 25 = .ok (.iload_n 1, 1) := by decide +kernel
theorem dX11_day_26 : decode cX11_day 26 = .ok (.putfield 171, 3) := by decide +kernel
theorem dX11_day_29 : decode cX11_day 29 = .ok (.iload_n 2, 1) := by decide +kernel
theorem dX11_day_30 : decode cX11_day 30 = .ok (.ireturn, 1) := by decide +kernel
theorem dX11_song_0 : decode cX11_song 0 = .ok (.iload_n 1, 1) := by decide +kernel
theorem dX11_song_1 : decode cX11_song 1 = .ok (.i2l, 1) := by decide +kernel
theorem dX11_song_2 : decode cX11_song 2 = .ok (.lconst 1, 1) := by decide +kernel
theorem dX11_song_3 : decode cX11_song 3 = .ok (.ldc2_w 174, 3) := by decide +kernel
theorem dX11_song_6 : decode cX11_song 6 = .ok (.invokestatic 145, 3) := by decide +kernel
theorem dX11_song_9 : decode cX11_song 9 = .ok (.ifCond .eq 40, 3) := by decide +kernel
theorem dX11_song_12 : decode cX11_song 12 = .ok (.iload_n 2, 1) := by decide +kernel
theorem dX11_song_13 : decode cX11_song 13 = .ok (.i2l, 1) := by decide +kernel
theorem dX11_song_14 : decode cX11_song 14 = .ok (.lconst 1, 1) := by decide +kernel
theorem dX11_song_15 : decode cX11_song 15 = .ok (.ldc2_w 176, 3) := by decide +kernel
theorem dX11_song_18 : decode cX11_song 18 = .ok (.invokestatic 145, 3) := by decide +kernel
theorem dX11_song_21 : decode cX11_song 21 = .ok (.ifCond .eq 28, 3) := by decide +kernel
theorem dX11_song_24 : decode cX11_song 24 = .ok (.iload_n 3, 1) := by decide +kernel
theorem dX11_song_25 : decode cX11_song 25 = .ok (.i2l, 1) := by decide +kernel
theorem dX11_song_26 : decode cX11_song 26 = .ok (.lconst 0, 1) := by decide +kernel
theorem dX11_song_27 : decode cX11_song 27 = .ok (.ldc2_w 178, 3) := by decide +kernel
theorem dX11_song_30 : decode cX11_song 30 = .ok (.invokestatic 145, 3) := by decide +kernel
theorem dX11_song_33 : decode cX11_song 33 = .ok (.ifCond .eq 16, 3) := by decide +kernel
theorem dX11_song_36 : decode cX11_song 36 = .ok (.iload 4, 2) := by decide +kernel
theorem dX11_song_38 : decode cX11_song 38 = .ok (.i2l, 1) := by decide +kernel
theorem dX11_song_39 : decode cX11_song 39 = .ok (.lconst 1, 1) := by decide +kernel
theorem dX11_song_40 : decode cX11_song 40 = .ok (.ldc2_w 180, 3) := by decide +kernel
theorem dX11_song_43 : decode cX11_song 43 = .ok (.invokestatic 145, 3) := by decide +kernel
theorem dX11_song_46 : decode cX11_song 46 = .ok (.ifCond .ne 6, 3) := by decide +kernel
theorem dX11_song_49 : decode cX11_song 49 = .ok (.bipush (-2), 2) := by decide +kernel
theorem dX11_song_51 : decode cX11_song 51 = .ok (.ireturn, 1) := by decide +kernel
theorem dX11_song_52 : decode cX11_song 52 = .ok (.aload_n 0, 1) := by decide +kernel
theorem dX11_song_53 : decode cX11_song 53 = .ok (.getfield 137, 3) := by decide +kernel
theorem dX11_song_56 : decode cX11_song 56 = .ok (.bipush 9, 2) := by decide +kernel
theorem dX11_song_58 : decode cX11_song 58 = .ok (.if_icmp .ne 6, 3) := by decide +kernel
theorem dX11_song_61 : decode cX11_song 61 = .ok (.bipush (-4), 2) := by decide +kernel
theorem dX11_song_63 : decode cX11_song 63 = .ok (.ireturn, 1) := by decide +kernel
theorem dX11_song_64 : decode cX11_song 64 = .ok (.aload_n 0, 1) := by decide +kernel
theorem dX11_song_65 : decode cX11_song 65 = .ok (.getfield 37, 3) := by decide +kernel
theorem dX11_song_68 : decode cX11_song 68 = .ok (.aload_n 0, 1) := by decide +kernel
theorem dX11_song_69 : decode cX11_song 69 = .ok (.getfield 137, 3) := by decide +kernel
theorem dX11_song_72 : decode cX11_song 72 = .ok (.iload_n 1, 1) := by decide +kernel
theorem dX11_song_73 : decode cX11_song 73 = .ok (.iastore, 1) := by decide +kernel
theorem dX11_song_74 : decode cX11_song 74 = .ok (.aload_n 0, 1) := by decide +kernel
theorem dX11_song_75 : decode cX11_song 75 = .ok (.getfield 40, 3) := by decide +kernel
theorem dX11_song_78 : decode cX11_song 78 = .ok (.aload_n 0, 1) := by decide +kernel
theorem dX11_song_79 : decode cX11_song 79 = .ok (.getfield 137, 3) := by decide +kernel
theorem dX11_song_82 : decode cX11_song 82 = .ok (.iload_n 2, 1) := by decide +kernel
theorem dX11_song_83 : decode cX11_song 83 = .ok (.iastore, 1) := by decide +kernel
theorem dX11_song_84 : decode cX11_song 84 = .ok (.aload_n 0, 1) := by decide +kernel
theorem dX11_song_85 : decode cX11_song 85 = .ok (.getfield 43, 3) := by decide +kernel
theorem dX11_song_88 : decode cX11_song 88 = .ok (.aload_n 0, 1) := by decide +kernel
theorem dX11_song_89 : decode cX11_song 89 = .ok (.getfield 137, 3) := by decide +kernel
theorem dX11_song_92 : decode cX11_song 92 = .ok (.iload_n 3, 1) := by decide +kernel
theorem dX11_song_93 : decode cX11_song 93 = .ok (.iastore, 1) := by decide +kernel
theorem dX11_song_94 : decode cX11_song 94 = .ok (.aload_n 0, 1) := by decide +kernel
theorem dX11_song_95 : decode cX11_song 95 = .ok (.getfield 46, 3) := by decide +kernel
theorem dX11_song_98 : decode cX11_song 98 = .ok (.aload_n 0, 1) := by decide +kernel
theorem dX11_song_99 : decode cX11_song 99 = .ok (.getfield 137, 3) := by decide +kernel
theorem dX11_song_102 : decode cX11_song 102 = .ok (.iload 4, 2) := by decide +kernel
theorem dX11_song_104 : decode cX11_song 104 = .ok (.iastore, 1) := by decide +kernel
theorem dX11_song_105 : decode cX11_song 105 = .ok (.aload_n 0, 1) := by decide +kernel
theorem dX11_song_106 : decode cX11_song 106 = .ok (.dup, 1) := by decide +kernel
theorem dX11_song_107 : decode cX11_song 107 = .ok (.getfield 137, 3) := by decide +kernel
theorem dX11_song_110 : decode cX11_song 110 = .ok (.iconst 1, 1) := by decide +kernel
theorem dX11_song_111 : decode cX11_song 111 = .ok (.iadd, 1) := by decide +kernel
theorem dX11_song_112 : decode cX11_song 112 = .ok (.putfield 137, 3) := by decide +kernel
theorem dX11_song_115 : decode cX11_song 115 = .ok (.aload_n 0, 1) := by decide +kernel
theorem dX11_song_116 : decode cX11_song 116 = .ok (.getfield 137, 3) := by decide +kernel
theorem dX11_song_119 : decode cX11_song 119 = .ok (.iconst 1, 1) := by decide +kernel
theorem dX11_song_120 : decode cX11_song 120 = .ok (.isub, 1) := by decide +kernel
theorem dX11_song_121 : decode cX11_song 121 = .ok (.ireturn, 1) := by decide +kernel
theorem dX11_judge_0 : decode cX11_judge 0 = .ok (.iload_n 1, 1) := by decide +kernel
theorem dX11_judge_1 : decode cX11_judge 1 = .ok (.invokestatic 158, 3) := by decide +kernel
theorem dX11_judge_4 : decode cX11_judge 4 = .ok (.ifCond .ne 5, 3) := by decide +kernel
theorem dX11_judge_7 : decode cX11_judge 7 = .ok (.iconst (-1), 1) := by decide +kernel
theorem dX11_judge_8 : decode cX11_judge 8 = .ok (.ireturn, 1) := by decide +kernel
theorem dX11_judge_9 : decode cX11_judge 9 = .ok (.aload_n 0, 1) := by decide +kernel
theorem dX11_judge_10 : decode cX11_judge 10 = .ok (.getfield 140, 3) := by decide +kernel
theorem dX11_judge_13 : decode cX11_judge 13 = .ok (.bipush 6, 2) := by decide +kernel
theorem dX11_judge_15 : decode cX11_judge 15 = .ok (.if_icmp .ne 6, 3) := by decide +kernel
theorem dX11_judge_18 : decode cX11_judge 18 = .ok (.bipush (-4), 2) := by decide +kernel
theorem dX11_judge_20 : decode cX11_judge 20 = .ok (.ireturn, 1) := by decide +kernel
theorem dX11_judge_21 : decode cX11_judge 21 = .ok (.aload_n 0, 1) := by decide +kernel
theorem dX11_judge_22 : decode cX11_judge 22 = .ok (.getfield 49, 3) := by decide +kernel
theorem dX11_judge_25 : decode cX11_judge 25 = .ok (.aload_n 0, 1) := by decide +kernel
theorem dX11_judge_26 : decode cX11_judge 26 = .ok (.getfield 140, 3) := by decide +kernel
theorem dX11_judge_29 : decode cX11_judge 29 = .ok (.iload_n 1, 1) := by decide +kernel
theorem dX11_judge_30 : decode cX11_judge 30 = .ok (.iastore, 1) := by decide +kernel
theorem dX11_judge_31 : decode cX11_judge 31 = .ok (.aload_n 0, 1) := by decide +kernel
theorem dX11_judge_32 : decode cX11_judge 32 = .ok (.dup, 1) := by decide +kernel
theorem dX11_judge_33 : decode cX11_judge 33 = .ok (.getfield 140, 3) := by decide +kernel
theorem dX11_judge_36 : decode cX11_judge 36 = .ok (.iconst 1, 1) := by decide +kernel
theorem dX11_judge_37 : decode cX11_judge 37 = .ok (.iadd, 1) := by decide +kernel
theorem dX11_judge_38 : decode cX11_judge 38 = .ok (.putfield 140, 3) := by decide +kernel
theorem dX11_judge_41 : decode cX11_judge 41 = .ok (.aload_n 0, 1) := by decide +kernel
theorem dX11_judge_42 : decode cX11_judge 42 = .ok (.getfield 140, 3) := by decide +kernel
theorem dX11_judge_45 : decode cX11_judge 45 = .ok (.iconst 1, 1) := by decide +kernel
theorem dX11_judge_46 : decode cX11_judge 46 = .ok (.isub, 1) := by decide +kernel
theorem dX11_judge_47 : decode cX11_judge 47 = .ok (.ireturn, 1) := by decide +kernel
theorem dX11_mark_0 : decode cX11_mark 0 = .ok (.aload_n 0, 1) := by decide +kernel
theorem dX11_mark_1 : decode cX11_mark 1 = .ok (.iload_n 1, 1) := by decide +kernel
theorem dX11_mark_2 : decode cX11_mark 2 = .ok (.invokevirtual 182, 3) := by decide +kernel
theorem dX11_mark_5 : decode cX11_mark 5 = .ok (.ifCond .eq 11, 3) := by decide +kernel
theorem dX11_mark_8 : decode cX11_mark 8 = .ok (.aload_n 0, 1) := by decide +kernel
theorem dX11_mark_9 : decode cX11_mark 9 = .ok (.iload_n 2, 1) := by decide +kernel
theorem dX11_mark_10 : decode cX11_mark 10 = .ok (.invokevirtual 162, 3) := by decide +kernel
theorem dX11_mark_13 : decode cX11_mark 13 = .ok (.ifCond .ne 6, 3) := by decide +kernel
theorem dX11_mark_16 : decode cX11_mark 16 = .ok (.bipush (-5), 2) := by decide +kernel
theorem dX11_mark_18 : decode cX11_mark 18 = .ok (.ireturn, 1) := by decide +kernel
theorem dX11_mark_19 : decode cX11_mark 19 = .ok (.iload_n 3, 1) := by decide +kernel
theorem dX11_mark_20 : decode cX11_mark 20 = .ok (.i2l, 1) := by decide +kernel
theorem dX11_mark_21 : decode cX11_mark 21 = .ok (.lconst 0, 1) := by decide +kernel
theorem dX11_mark_22 : decode cX11_mark 22 = .ok (.ldc2_w 185, 3) := by decide +kernel
theorem dX11_mark_25 : decode cX11_mark 25 = .ok (.invokestatic 145, 3) := by decide +kernel
theorem dX11_mark_28 : decode cX11_mark 28 = .ok (.ifCond .ne 6, 3) := by decide +kernel
theorem dX11_mark_31 : decode cX11_mark 31 = .ok (.bipush (-2), 2) := by decide +kernel
theorem dX11_mark_33 : decode cX11_mark 33 = .ok (.ireturn, 1) := by decide +kernel
theorem dX11_mark_34 : decode cX11_mark 34 = .ok (.aload_n 0, 1) := by decide +kernel
theorem dX11_mark_35 : decode cX11_mark 35 = .ok (.getfield 49, 3) := by decide +kernel
theorem dX11_mark_38 : decode cX11_mark 38 = .ok (.iload_n 1, 1) := by decide +kernel
theorem dX11_mark_39 : decode cX11_mark 39 = .ok (.iaload, 1) := by decide +kernel
theorem dX11_mark_40 : decode cX11_mark 40 = .ok (.aload_n 0, 1) := by decide +kernel
theorem dX11_mark_41 : decode cX11_mark 41 = .ok (.getfield 13, 3) := by decide +kernel
theorem dX11_mark_44 : decode cX11_mark 44 = .ok (.iload_n 2, 1) := by decide +kernel
theorem dX11_mark_45 : decode cX11_mark 45 = .ok (.iaload, 1) := by decide +kernel
theorem dX11_mark_46 : decode cX11_mark 46 = .ok (.if_icmp .ne 6, 3) := by decide +kernel
theorem dX11_mark_49 : decode cX11_mark 49 = .ok (.bipush (-3), 2) := by decide +kernel
theorem dX11_mark_51 : decode cX11_mark 51 = .ok (.ireturn, 1) := by decide +kernel
theorem dX11_mark_52 : decode cX11_mark 52 = .ok (.aload_n 0, 1) := by decide +kernel
theorem dX11_mark_53 : decode cX11_mark 53 = .ok (.getfield 52, 3) := by decide +kernel
theorem dX11_mark_56 : decode cX11_mark 56 = .ok (.bipush 16, 2) := by decide +kernel
theorem dX11_mark_58 : decode cX11_mark 58 = .ok (.iload_n 1, 1) := by decide +kernel
theorem dX11_mark_59 : decode cX11_mark 59 = .ok (.imul, 1) := by decide +kernel
theorem dX11_mark_60 : decode cX11_mark 60 = .ok (.iload_n 2, 1) := by decide +kernel
theorem dX11_mark_61 : decode cX11_mark 61 = .ok (.iadd, 1) := by decide +kernel
theorem dX11_mark_62 : decode cX11_mark 62 = .ok (.iaload, 1) := by decide +kernel
theorem dX11_mark_63 : decode cX11_mark 63 = .ok (.iconst 1, 1) := by decide +kernel
theorem dX11_mark_64 : decode cX11_mark 64 = .ok (.isub, 1) := by decide +kernel
theorem dX11_mark_65 : decode cX11_mark 65 = .ok (.istore 4, 2) := by decide +kernel
theorem dX11_mark_67 : decode cX11_mark 67 = .ok (.aload_n 0, 1) := by decide +kernel
theorem dX11_mark_68 : decode cX11_mark 68 = .ok (.getfield 52, 3) := by decide +kernel
theorem dX11_mark_71 : decode cX11_mark 71 = .ok (.bipush 16, 2) := by decide +kernel
theorem dX11_mark_73 : decode cX11_mark 73 = .ok (.iload_n 1, 1) := by decide +kernel
theorem dX11_mark_74 : decode cX11_mark 74 = .ok (.imul, 1) := by decide +kernel
theorem dX11_mark_75 : decode cX11_mark 75 = .ok (.iload_n 2, 1) := by decide +kernel
theorem dX11_mark_76 : decode cX11_mark 76 = .ok (.iadd, 1) := by decide +kernel
theorem dX11_mark_77 : decode cX11_mark 77 = .ok (.iload_n 3, 1) := by decide +kernel
theorem dX11_mark_78 : decode cX11_mark 78 = .ok (.iconst 1, 1) := by decide +kernel
theorem dX11_mark_79 : decode cX11_mark 79 = .ok (.iadd, 1) := by decide +kernel
theorem dX11_mark_80 : decode cX11_mark 80 = .ok (.iastore, 1) := by decide +kernel
theorem dX11_mark_81 : decode cX11_mark 81 = .ok (.iload 4, 2) := by decide +kernel
theorem dX11_mark_83 : decode cX11_mark 83 = .ok (.ireturn, 1) := by decide +kernel
theorem dX11_meanOf_0 : decode cX11_meanOf 0 = .ok (.iconst 0, 1) := by decide +kernel
theorem dX11_meanOf_1 : decode cX11_meanOf 1 = .ok (.istore_n 2, 1) := by decide +kernel
theorem dX11_meanOf_2 : decode cX11_meanOf 2 = .ok (.iconst 0, 1) := by decide +kernel
theorem dX11_meanOf_3 : decode cX11_meanOf 3 = .ok (.istore_n 3, 1) := by decide +kernel
theorem dX11_meanOf_4 : decode cX11_meanOf 4 = .ok (.iconst 0, 1) := by decide +kernel
theorem dX11_meanOf_5 : decode cX11_meanOf 5 = .ok (.istore 4, 2) := by decide +kernel
theorem dX11_meanOf_7 : decode cX11_meanOf 7 = .ok (.iload 4, 2) := by decide +kernel
theorem dX11_meanOf_9 : decode cX11_meanOf 9 = .ok (.aload_n 0, 1) := by decide +kernel
theorem dX11_meanOf_10 : decode cX11_meanOf 10 = .ok (.getfield 140, 3) := by decide +kernel
theorem dX11_meanOf_13 : decode cX11_meanOf 13 = .ok (.if_icmp .ge 68, 3) := by decide +kernel
theorem dX11_meanOf_16 : decode cX11_meanOf 16 = .ok (.iload_n 2, 1) := by decide +kernel
theorem dX11_meanOf_17 : decode cX11_meanOf 17 = .ok (.aload_n 0, 1) := by decide +kernel
theorem dX11_meanOf_18 : decode cX11_meanOf 18 = .ok (.getfield 52, 3) := by decide +kernel
theorem dX11_meanOf_21 : decode cX11_meanOf 21 = .ok (.bipush 16, 2) := by decide +kernel
theorem dX11_meanOf_23 : decode cX11_meanOf 23 = .ok (.iload 4, 2) := by decide +kernel
theorem dX11_meanOf_25 : decode cX11_meanOf 25 = .ok (.imul, 1) := by decide +kernel
theorem dX11_meanOf_26 : decode cX11_meanOf 26 = .ok (.iload_n 1, 1) := by decide +kernel
theorem dX11_meanOf_27 : decode cX11_meanOf 27 = .ok (.iadd, 1) := by decide +kernel
theorem dX11_meanOf_28 : decode cX11_meanOf 28 = .ok (.iaload, 1) := by decide +kernel
theorem dX11_meanOf_29 : decode cX11_meanOf 29 = .ok (.ifCond .le 7, 3) := by decide +kernel
theorem dX11_meanOf_32 : decode cX11_meanOf 32 = .ok (.iconst 1, 1) := by decide +kernel
theorem dX11_meanOf_33 : decode cX11_meanOf 33 = .ok (.goto 4, 3) := by decide +kernel
theorem dX11_meanOf_36 : decode cX11_meanOf 36 = .ok (.iconst 0, 1) := by decide +kernel
theorem dX11_meanOf_37 : decode cX11_meanOf 37 = .ok (.iadd, 1) := by decide +kernel
theorem dX11_meanOf_38 : decode cX11_meanOf 38 = .ok (.istore_n 2, 1) := by decide +kernel
theorem dX11_meanOf_39 : decode cX11_meanOf 39 = .ok (.iload_n 3, 1) := by decide +kernel
theorem dX11_meanOf_40 : decode cX11_meanOf 40 = .ok (.aload_n 0, 1) := by decide +kernel
theorem dX11_meanOf_41 : decode cX11_meanOf 41 = .ok (.getfield 52, 3) := by decide +kernel
theorem dX11_meanOf_44 : decode cX11_meanOf 44 = .ok (.bipush 16, 2) := by decide +kernel
theorem dX11_meanOf_46 : decode cX11_meanOf 46 = .ok (.iload 4, 2) := by decide +kernel
theorem dX11_meanOf_48 : decode cX11_meanOf 48 = .ok (.imul, 1) := by decide +kernel
theorem dX11_meanOf_49 : decode cX11_meanOf 49 = .ok (.iload_n 1, 1) := by decide +kernel
theorem dX11_meanOf_50 : decode cX11_meanOf 50 = .ok (.iadd, 1) := by decide +kernel
theorem dX11_meanOf_51 : decode cX11_meanOf 51 = .ok (.iaload, 1) := by decide +kernel
theorem dX11_meanOf_52 : decode cX11_meanOf 52 = .ok (.ifCond .le 20, 3) := by decide +kernel
theorem dX11_meanOf_55 : decode cX11_meanOf 55 = .ok (.aload_n 0, 1) := by decide +kernel
theorem dX11_meanOf_56 : decode cX11_meanOf 56 = .ok (.getfield 52, 3) := by decide +kernel
theorem dX11_meanOf_59 : decode cX11_meanOf 59 = .ok (.bipush 16, 2) := by decide +kernel
theorem dX11_meanOf_61 : decode cX11_meanOf 61 = .ok (.iload 4, 2) := by decide +kernel
theorem dX11_meanOf_63 : decode cX11_meanOf 63 = .ok (.imul, 1) := by decide +kernel
theorem dX11_meanOf_64 : decode cX11_meanOf 64 = .ok (.iload_n 1, 1) := by decide +kernel
theorem dX11_meanOf_65 : decode cX11_meanOf 65 = .ok (.iadd, 1) := by decide +kernel
theorem dX11_meanOf_66 : decode cX11_meanOf 66 = .ok (.iaload, 1) := by decide +kernel
theorem dX11_meanOf_67 : decode cX11_meanOf 67 = .ok (.iconst 1, 1) := by decide +kernel
theorem dX11_meanOf_68 : decode cX11_meanOf 68 = .ok (.isub, 1) := by decide +kernel
theorem dX11_meanOf_69 : decode cX11_meanOf 69 = .ok (.goto 4, 3) := by decide +kernel
theorem dX11_meanOf_72 : decode cX11_meanOf 72 = .ok (.iconst 0, 1) := by decide +kernel
theorem dX11_meanOf_73 : decode cX11_meanOf 73 = .ok (.iadd, 1) := by decide +kernel
theorem dX11_meanOf_74 : decode cX11_meanOf 74 = .ok (.istore_n 3, 1) := by decide +kernel
theorem dX11_meanOf_75 : decode cX11_meanOf 75 = .ok (.iinc 4 1, 3) := by decide +kernel
theorem dX11_meanOf_78 : decode cX11_meanOf 78 = .ok (.goto (-71), 3) := by decide +kernel
theorem dX11_meanOf_81 : decode cX11_meanOf 81 = .ok (.iload_n 2, 1) := by decide +kernel
theorem dX11_meanOf_82 : decode cX11_meanOf 82 = .ok (.ifCond .ne 7, 3) := by decide +kernel
theorem dX11_meanOf_85 : decode cX11_meanOf 85 = .ok (.iconst (-1), 1) := by decide +kernel
theorem dX11_meanOf_86 : decode cX11_meanOf 86 = .ok (.goto 6, 3) := by decide +kernel
theorem dX11_meanOf_89 : decode cX11_meanOf 89 = .ok (.iload_n 3, 1) := by decide +kernel
theorem dX11_meanOf_90 : decode cX11_meanOf 90 = .ok (.iload_n 2, 1) := by decide +kernel
theorem dX11_meanOf_91 : decode cX11_meanOf 91 = .ok (.idiv, 1) := by decide +kernel
theorem dX11_meanOf_92 : decode cX11_meanOf 92 = .ok (.ireturn, 1) := by decide +kernel
theorem dX11_mean_0 : decode cX11_mean 0 = .ok (.aload_n 0, 1) := by decide +kernel
theorem dX11_mean_1 : decode cX11_mean 1 = .ok (.iload_n 1, 1) := by decide +kernel
theorem dX11_mean_2 : decode cX11_mean 2 = .ok (.invokevirtual 162, 3) := by decide +kernel
theorem dX11_mean_5 : decode cX11_mean 5 = .ok (.ifCond .eq 11, 3) := by decide +kernel
theorem dX11_mean_8 : decode cX11_mean 8 = .ok (.aload_n 0, 1) := by decide +kernel
theorem dX11_mean_9 : decode cX11_mean 9 = .ok (.iload_n 1, 1) := by decide +kernel
theorem dX11_mean_10 : decode cX11_mean 10 = .ok (.invokevirtual 187, 3) := by decide +kernel
theorem dX11_mean_13 : decode cX11_mean 13 = .ok (.goto 4, 3) := by decide +kernel
theorem dX11_mean_16 : decode cX11_mean 16 = .ok (.iconst (-1), 1) := by decide +kernel
theorem dX11_mean_17 : decode cX11_mean 17 = .ok (.ireturn, 1) := by decide +kernel
theorem dX11_scale_0 : decode cX11_scale 0 = .ok (.aload_n 0, 1) := by decide +kernel
theorem dX11_scale_1 : decode cX11_scale 1 = .ok (.iload_n 1, 1) := by decide +kernel
theorem dX11_scale_2 : decode cX11_scale 2 = .ok (.invokevirtual 182, 3) := by decide +kernel
theorem dX11_scale_5 : decode cX11_scale 5 = .ok (.ifCond .eq 16, 3) := by decide +kernel
theorem dX11_scale_8 : decode cX11_scale 8 = .ok (.aload_n 0, 1) := by decide +kernel
theorem dX11_scale_9 : decode cX11_scale 9 = .ok (.iload_n 2, 1) := by decide +kernel
theorem dX11_scale_10 : decode cX11_scale 10 = .ok (.invokevirtual 182, 3) := by decide +kernel
theorem dX11_scale_13 : decode cX11_scale 13 = .ok (.ifCond .eq 8, 3) := by decide +kernel
theorem dX11_scale_16 : decode cX11_scale 16 = .ok (.iload_n 1, 1) := by decide +kernel
theorem dX11_scale_17 : decode cX11_scale 17 = .ok (.iload_n 2, 1) := by decide +kernel
theorem dX11_scale_18 : decode cX11_scale 18 = .ok (.if_icmp .ne 7, 3) := by decide +kernel
theorem dX11_scale_21 : decode cX11_scale 21 = .ok (.sipush (-200), 3) := by decide +kernel
theorem dX11_scale_24 : decode cX11_scale 24 = .ok (.ireturn, 1) := by decide +kernel
theorem dX11_scale_25 : decode cX11_scale 25 = .ok (.iconst 0, 1) := by decide +kernel
theorem dX11_scale_26 : decode cX11_scale 26 = .ok (.istore_n 3, 1) := by decide +kernel
theorem dX11_scale_27 : decode cX11_scale 27 = .ok (.iconst 0, 1) := by decide +kernel
theorem dX11_scale_28 : decode cX11_scale 28 = .ok (.istore 4, 2) := by decide +kernel
theorem dX11_scale_30 : decode cX11_scale 30 = .ok (.iconst 0, 1) := by decide +kernel
theorem dX11_scale_31 : decode cX11_scale 31 = .ok (.istore 5, 2) := by decide +kernel
theorem dX11_scale_33 : decode cX11_scale 33 = .ok (.iload 5, 2) := by decide +kernel
theorem dX11_scale_35 : decode cX11_scale 35 = .ok (.aload_n 0, 1) := by decide +kernel
theorem dX11_scale_36 : decode cX11_scale 36 = .ok (.getfield 134, 3) := by decide +kernel
theorem dX11_scale_39 : decode cX11_scale 39 = .ok (.if_icmp .ge 98, 3) := by decide +kernel
theorem dX11_scale_42 : decode cX11_scale 42 = .ok (.aload_n 0, 1) := by decide +kernel
theorem dX11_scale_43 : decode cX11_scale 43 = .ok (.getfield 52, 3) := by decide +kernel
theorem dX11_scale_46 : decode cX11_scale 46 = .ok (.bipush 16, 2) := by decide +kernel
theorem dX11_scale_48 : decode cX11_scale 48 = .ok (.iload_n 1, 1) := by decide +kernel
theorem dX11_scale_49 : decode cX11_scale 49 = .ok (.imul, 1) := by decide +kernel
theorem dX11_scale_50 : decode cX11_scale 50 = .ok (.iload 5, 2) := by decide +kernel
theorem dX11_scale_52 : decode cX11_scale 52 = .ok (.iadd, 1) := by decide +kernel
theorem dX11_scale_53 : decode cX11_scale 53 = .ok (.iaload, 1) := by decide +kernel
theorem dX11_scale_54 : decode cX11_scale 54 = .ok (.ifCond .le 22, 3) := by decide +kernel
theorem dX11_scale_57 : decode cX11_scale 57 = .ok (.aload_n 0, 1) := by decide +kernel
theorem dX11_scale_58 : decode cX11_scale 58 = .ok (.getfield 52, 3) := by decide +kernel
theorem dX11_scale_61 : decode cX11_scale 61 = .ok (.bipush 16, 2) := by decide +kernel
theorem dX11_scale_63 : decode cX11_scale 63 = .ok (.iload_n 2, 1) := by decide +kernel
theorem dX11_scale_64 : decode cX11_scale 64 = .ok (.imul, 1) := by decide +kernel
theorem dX11_scale_65 : decode cX11_scale 65 = .ok (.iload 5, 2) := by decide +kernel
theorem dX11_scale_67 : decode cX11_scale 67 = .ok (.iadd, 1) := by decide +kernel
theorem dX11_scale_68 : decode cX11_scale 68 = .ok (.iaload, 1) := by decide +kernel
theorem dX11_scale_69 : decode cX11_scale 69 = .ok (.ifCond .le 7, 3) := by decide +kernel
theorem dX11_scale_72 : decode cX11_scale 72 = .ok (.iconst 1, 1) := by decide +kernel
theorem dX11_scale_73 : decode cX11_scale 73 = .ok (.goto 4, 3) := by decide +kernel
theorem dX11_scale_76 : decode cX11_scale 76 = .ok (.iconst 0, 1) := by decide +kernel
theorem dX11_scale_77 : decode cX11_scale 77 = .ok (.istore 6, 2) := by decide +kernel
theorem dX11_scale_79 : decode cX11_scale 79 = .ok (.iload_n 3, 1) := by decide +kernel
theorem dX11_scale_80 : decode cX11_scale 80 = .ok (.iload 6, 2) := by decide +kernel
theorem dX11_scale_82 : decode cX11_scale 82 = .ok (.ifCond .eq 7, 3) := by decide +kernel
theorem dX11_scale_85 : decode cX11_scale 85 = .ok (.iconst 1, 1) := by decide +kernel
theorem dX11_scale_86 : decode cX11_scale 86 = .ok (.goto 4, 3) := by decide +kernel
theorem dX11_scale_89 : decode cX11_scale 89 = .ok (.iconst 0, 1) := by decide +kernel
theorem dX11_scale_90 : decode cX11_scale 90 = .ok (.iadd, 1) := by decide +kernel
theorem dX11_scale_91 : decode cX11_scale 91 = .ok (.istore_n 3, 1) := by decide +kernel
theorem dX11_scale_92 : decode cX11_scale 92 = .ok (.iload 4, 2) := by decide +kernel
theorem dX11_scale_94 : decode cX11_scale 94 = .ok (.iload 6, 2) := by decide +kernel
theorem dX11_scale_96 : decode cX11_scale 96 = .ok (.ifCond .eq 31, 3) := by decide +kernel
theorem dX11_scale_99 : decode cX11_scale 99 = .ok (.aload_n 0, 1) := by decide +kernel
theorem dX11_scale_100 : decode cX11_scale 100 = .ok (.getfield 52, 3) := by decide +kernel
theorem dX11_scale_103 : decode cX11_scale 103 = .ok (.bipush 16, 2) := by decide +kernel
theorem dX11_scale_105 : decode cX11_scale 105 = .ok (.iload_n 1, 1) := by decide +kernel
theorem dX11_scale_106 : decode cX11_scale 106 = .ok (.imul, 1) := by decide +kernel
theorem dX11_scale_107 : decode cX11_scale 107 = .ok (.iload 5, 2) := by decide +kernel
theorem dX11_scale_109 : decode cX11_scale 109 = .ok (.iadd, 1) := by decide +kernel
theorem dX11_scale_110 : decode cX11_scale 110 = .ok (.iaload, 1) := by decide +kernel
theorem dX11_scale_111 : decode cX11_scale 111 = .ok (.aload_n 0, 1) := by decide +kernel
theorem dX11_scale_112 : decode cX11_scale 112 = .ok (.getfield 52, 3) := by decide +kernel
theorem dX11_scale_115 : decode cX11_scale 115 = .ok (.bipush 16, 2) := by decide +kernel
theorem dX11_scale_117 : decode cX11_scale 117 = .ok (.iload_n 2, 1) := by decide +kernel
theorem dX11_scale_118 : decode cX11_scale 118 = .ok (.imul, 1) := by decide +kernel
theorem dX11_scale_119 : decode cX11_scale 119 = .ok (.iload 5, 2) := by decide +kernel
theorem dX11_scale_121 : decode cX11_scale 121 = .ok (.iadd, 1) := by decide +kernel
theorem dX11_scale_122 : decode cX11_scale 122 = .ok (.iaload, 1) := by decide +kernel
theorem dX11_scale_123 : decode cX11_scale 123 = .ok (.isub, 1) := by decide +kernel
theorem dX11_scale_124 : decode cX11_scale 124 = .ok (.goto 4, 3) := by decide +kernel
theorem dX11_scale_127 : decode cX11_scale 127 = .ok (.iconst 0, 1) := by decide +kernel
theorem dX11_scale_128 : decode cX11_scale 128 = .ok (.iadd, 1) := by decide +kernel
theorem dX11_scale_129 : decode cX11_scale 129 = .ok (.istore 4, 2) := by decide +kernel
theorem dX11_scale_131 : decode cX11_scale 131 = .ok (.iinc 5 1, 3) := by decide +kernel
theorem dX11_scale_134 : decode cX11_scale 134 = .ok (.goto (-101), 3) := by decide +kernel
theorem dX11_scale_137 : decode cX11_scale 137 = .ok (.iload_n 3, 1) := by decide +kernel
theorem dX11_scale_138 : decode cX11_scale 138 = .ok (.ifCond .ne 9, 3) := by decide +kernel
theorem dX11_scale_141 : decode cX11_scale 141 = .ok (.sipush (-200), 3) := by decide +kernel
theorem dX11_scale_144 : decode cX11_scale 144 = .ok (.goto 23, 3) := by decide +kernel
theorem dX11_scale_147 : decode cX11_scale 147 = .ok (.iload 4, 2) := by decide +kernel
theorem dX11_scale_149 : decode cX11_scale 149 = .ok (.ifCond .lt 10, 3) := by decide +kernel
theorem dX11_scale_152 : decode cX11_scale 152 = .ok (.iload 4, 2) := by decide +kernel
theorem dX11_scale_154 : decode cX11_scale 154 = .ok (.iload_n 3, 1) := by decide +kernel
theorem dX11_scale_155 : decode cX11_scale 155 = .ok (.idiv, 1) := by decide +kernel
theorem dX11_scale_156 : decode cX11_scale 156 = .ok (.goto 11, 3) := by decide +kernel
theorem dX11_scale_159 : decode cX11_scale 159 = .ok (.iload 4, 2) := by decide +kernel
theorem dX11_scale_161 : decode cX11_scale 161 = .ok (.ineg, 1) := by decide +kernel
theorem dX11_scale_162 : decode cX11_scale 162 = .ok (.iload_n 3, 1) := by decide +kernel
theorem dX11_scale_163 : decode cX11_scale 163 = .ok (.invokestatic 191, 3) := by decide +kernel
theorem dX11_scale_166 : decode cX11_scale 166 = .ok (.ineg, 1) := by decide +kernel
theorem dX11_scale_167 : decode cX11_scale 167 = .ok (.ireturn, 1) := by decide +kernel
theorem dX11_sizeOf_0 : decode cX11_sizeOf 0 = .ok (.aload_n 0, 1) := by decide +kernel
theorem dX11_sizeOf_1 : decode cX11_sizeOf 1 = .ok (.getfield 16, 3) := by decide +kernel
theorem dX11_sizeOf_4 : decode cX11_sizeOf 4 = .ok (.iconst 4, 1) := by decide +kernel
theorem dX11_sizeOf_5 : decode cX11_sizeOf 5 = .ok (.iload_n 1, 1) := by decide +kernel
theorem dX11_sizeOf_6 : decode cX11_sizeOf 6 = .ok (.imul, 1) := by decide +kernel
theorem dX11_sizeOf_7 : decode cX11_sizeOf 7 = .ok (.iaload, 1) := by decide +kernel
theorem dX11_sizeOf_8 : decode cX11_sizeOf 8 = .ok (.aload_n 0, 1) := by decide +kernel
theorem dX11_sizeOf_9 : decode cX11_sizeOf 9 = .ok (.getfield 16, 3) := by decide +kernel
theorem dX11_sizeOf_12 : decode cX11_sizeOf 12 = .ok (.iconst 4, 1) := by decide +kernel
theorem dX11_sizeOf_13 : decode cX11_sizeOf 13 = .ok (.iload_n 1, 1) := by decide +kernel
theorem dX11_sizeOf_14 : decode cX11_sizeOf 14 = .ok (.imul, 1) := by decide +kernel
theorem dX11_sizeOf_15 : decode cX11_sizeOf 15 = .ok (.iconst 1, 1) := by decide +kernel
theorem dX11_sizeOf_16 : decode cX11_sizeOf 16 = .ok (.iadd, 1) := by decide +kernel
theorem dX11_sizeOf_17 : decode cX11_sizeOf 17 = .ok (.iaload, 1) := by decide +kernel
theorem dX11_sizeOf_18 : decode cX11_sizeOf 18 = .ok (.iadd, 1) := by decide +kernel
theorem dX11_sizeOf_19 : decode cX11_sizeOf 19 = .ok (.aload_n 0, 1) := by decide +kernel
theorem dX11_sizeOf_20 : decode cX11_sizeOf 20 = .ok (.getfield 16, 3) := by decide +kernel
theorem dX11_sizeOf_23 : decode cX11_sizeOf 23 = .ok (.iconst 4, 1) := by decide +kernel
theorem dX11_sizeOf_24 : decode cX11_sizeOf 24 = .ok (.iload_n 1, 1) := by decide +kernel
theorem dX11_sizeOf_25 : decode cX11_sizeOf 25 = .ok (.imul, 1) := by decide +kernel
theorem dX11_sizeOf_26 : decode cX11_sizeOf 26 = .ok (.iconst 2, 1) := by decide +kernel
theorem dX11_sizeOf_27 : decode cX11_sizeOf 27 = .ok (.iadd, 1) := by decide +kernel
theorem dX11_sizeOf_28 : decode cX11_sizeOf 28 = .ok (.iaload, 1) := by decide +kernel
theorem dX11_sizeOf_29 : decode cX11_sizeOf 29 = .ok (.iadd, 1) := by decide +kernel
theorem dX11_sizeOf_30 : decode cX11_sizeOf 30 = .ok (.aload_n 0, 1) := by decide +kernel
theorem dX11_sizeOf_31 : decode cX11_sizeOf 31 = .ok (.getfield 16, 3) := by decide +kernel
theorem dX11_sizeOf_34 : decode cX11_sizeOf 34 = .ok (.iconst 4, 1) := by decide +kernel
theorem dX11_sizeOf_35 : decode cX11_sizeOf 35 = .ok (.iload_n 1, 1) := by decide +kernel
theorem dX11_sizeOf_36 : decode cX11_sizeOf 36 = .ok (.imul, 1) := by decide +kernel
theorem dX11_sizeOf_37 : decode cX11_sizeOf 37 = .ok (.iconst 3, 1) := by decide +kernel
theorem dX11_sizeOf_38 : decode cX11_sizeOf 38 = .ok (.iadd, 1) := by decide +kernel
theorem dX11_sizeOf_39 : decode cX11_sizeOf 39 = .ok (.iaload, 1) := by decide +kernel
theorem dX11_sizeOf_40 : decode cX11_sizeOf 40 = .ok (.iadd, 1) := by decide +kernel
theorem dX11_sizeOf_41 : decode cX11_sizeOf 41 = .ok (.ireturn, 1) := by decide +kernel
theorem dX11_hasCome_0 : decode cX11_hasCome 0 = .ok (.aload_n 0, 1) := by decide +kernel
theorem dX11_hasCome_1 : decode cX11_hasCome 1 = .ok (.getfield 7, 3) := by decide +kernel
theorem dX11_hasCome_4 : decode cX11_hasCome 4 = .ok (.iload_n 1, 1) := by decide +kernel
theorem dX11_hasCome_5 : decode cX11_hasCome 5 = .ok (.iaload, 1) := by decide +kernel
theorem dX11_hasCome_6 : decode cX11_hasCome 6 = .ok (.iconst 4, 1) := by decide +kernel
theorem dX11_hasCome_7 : decode cX11_hasCome 7 = .ok (.if_icmp .ne 16, 3) := by decide +kernel
theorem dX11_hasCome_10 : decode cX11_hasCome 10 = .ok (.aload_n 0, 1) := by decide +kernel
theorem dX11_hasCome_11 : decode cX11_hasCome 11 = .ok (.getfield 171, 3) := by decide +kernel
theorem dX11_hasCome_14 : decode cX11_hasCome 14 = .ok (.aload_n 0, 1) := by decide +kernel
theorem dX11_hasCome_15 : decode cX11_hasCome 15 = .ok (.getfield 19, 3) := by decide +kernel
theorem dX11_hasCome_18 : decode cX11_hasCome 18 = .ok (.iload_n 1, 1) := by decide +kernel
theorem dX11_hasCome_19 : decode cX11_hasCome 19 = .ok (.iaload, 1) := by decide +kernel
theorem dX11_hasCome_20 : decode cX11_hasCome 20 = .ok (.if_icmp .lt 7, 3) := by decide +kernel
theorem dX11_hasCome_23 : decode cX11_hasCome 23 = .ok (.iconst 1, 1) := by decide +kernel
theorem dX11_hasCome_24 : decode cX11_hasCome 24 = .ok (.goto 4, 3) := by decide +kernel
theorem dX11_hasCome_27 : decode cX11_hasCome 27 = .ok (.iconst 0, 1) := by decide +kernel
theorem dX11_hasCome_28 : decode cX11_hasCome 28 = .ok (.ireturn, 1) := by decide +kernel
theorem dX11_isThere_0 : decode cX11_isThere 0 = .ok (.aload_n 0, 1) := by decide +kernel
theorem dX11_isThere_1 : decode cX11_isThere 1 = .ok (.getfield 7, 3) := by decide +kernel
theorem dX11_isThere_4 : decode cX11_isThere 4 = .ok (.iload_n 1, 1) := by decide +kernel
theorem dX11_isThere_5 : decode cX11_isThere 5 = .ok (.iaload, 1) := by decide +kernel
theorem dX11_isThere_6 : decode cX11_isThere 6 = .ok (.iconst 5, 1) := by decide +kernel
theorem dX11_isThere_7 : decode cX11_isThere 7 = .ok (.if_icmp .ne 43, 3) := by decide +kernel
theorem dX11_isThere_10 : decode cX11_isThere 10 = .ok (.aload_n 0, 1) := by decide +kernel
theorem dX11_isThere_11 : decode cX11_isThere 11 = .ok (.aload_n 0, 1) := by decide +kernel
theorem dX11_isThere_12 : decode cX11_isThere 12 = .ok (.getfield 19, 3) := by decide +kernel
theorem dX11_isThere_15 : decode cX11_isThere 15 = .ok (.iload_n 1, 1) := by decide +kernel
theorem dX11_isThere_16 : decode cX11_isThere 16 = .ok (.iaload, 1) := by decide +kernel
theorem dX11_isThere_17 : decode cX11_isThere 17 = .ok (.bipush 16, 2) := by decide +kernel
theorem dX11_isThere_19 : decode cX11_isThere 19 = .ok (.idiv, 1) := by decide +kernel
theorem dX11_isThere_20 : decode cX11_isThere 20 = .ok (.invokevirtual 194, 3) := by decide +kernel
theorem dX11_isThere_23 : decode cX11_isThere 23 = .ok (.ifCond .eq 23, 3) := by decide +kernel
theorem dX11_isThere_26 : decode cX11_isThere 26 = .ok (.aload_n 0, 1) := by decide +kernel
theorem dX11_isThere_27 : decode cX11_isThere 27 = .ok (.aload_n 0, 1) := by decide +kernel
theorem dX11_isThere_28 : decode cX11_isThere 28 = .ok (.getfield 19, 3) := by decide +kernel
theorem dX11_isThere_31 : decode cX11_isThere 31 = .ok (.iload_n 1, 1) := by decide +kernel
theorem dX11_isThere_32 : decode cX11_isThere 32 = .ok (.iaload, 1) := by decide +kernel
theorem dX11_isThere_33 : decode cX11_isThere 33 = .ok (.bipush 16, 2) := by decide +kernel
theorem dX11_isThere_35 : decode cX11_isThere 35 = .ok (.irem, 1) := by decide +kernel
theorem dX11_isThere_36 : decode cX11_isThere 36 = .ok (.invokevirtual 194, 3) := by decide +kernel
theorem dX11_isThere_39 : decode cX11_isThere 39 = .ok (.ifCond .eq 7, 3) := by decide +kernel
theorem dX11_isThere_42 : decode cX11_isThere 42 = .ok (.iconst 1, 1) := by decide +kernel
theorem dX11_isThere_43 : decode cX11_isThere 43 = .ok (.goto 12, 3) := by decide +kernel
theorem dX11_isThere_46 : decode cX11_isThere 46 = .ok (.iconst 0, 1) := by decide +kernel
theorem dX11_isThere_47 : decode cX11_isThere 47 = .ok (.goto 8, 3) := by decide +kernel
theorem dX11_isThere_50 : decode cX11_isThere 50 = .ok (.aload_n 0, 1) := by decide +kernel
theorem dX11_isThere_51 : decode cX11_isThere 51 = .ok (.iload_n 1, 1) := by decide +kernel
theorem dX11_isThere_52 : decode cX11_isThere 52 = .ok (.invokevirtual 194, 3) := by decide +kernel
theorem dX11_isThere_55 : decode cX11_isThere 55 = .ok (.ireturn, 1) := by decide +kernel
theorem dX11_about_0 : decode cX11_about 0 = .ok (.aload_n 0, 1) := by decide +kernel
theorem dX11_about_1 : decode cX11_about 1 = .ok (.iload_n 1, 1) := by decide +kernel
theorem dX11_about_2 : decode cX11_about 2 = .ok (.invokevirtual 162, 3) := by decide +kernel
theorem dX11_about_5 : decode cX11_about 5 = .ok (.ifCond .ne 5, 3) := by decide +kernel
theorem dX11_about_8 : decode cX11_about 8 = .ok (.iconst (-1), 1) := by decide +kernel
theorem dX11_about_9 : decode cX11_about 9 = .ok (.ireturn, 1) := by decide +kernel
theorem dX11_about_10 : decode cX11_about 10 = .ok (.iload_n 2, 1) := by decide +kernel
theorem dX11_about_11 : decode cX11_about 11 = .ok (.tableswitch 118 0 8 #[49, 56, 63, 69, 83, 90, 97, 104, 111], 49) := by decide +kernel
theorem dX11_about_60 : decode cX11_about 60 = .ok (.aload_n 0, 1) := by decide +kernel
theorem dX11_about_61 : decode cX11_about 61 = .ok (.getfield 7, 3) := by decide +kernel
theorem dX11_about_64 : decode cX11_about 64 = .ok (.iload_n 1, 1) := by decide +kernel
theorem dX11_about_65 : decode cX11_about 65 = .ok (.iaload, 1) := by decide +kernel
theorem dX11_about_66 : decode cX11_about 66 = .ok (.ireturn, 1) := by decide +kernel
theorem dX11_about_67 : decode cX11_about 67 = .ok (.aload_n 0, 1) := by decide +kernel
theorem dX11_about_68 : decode cX11_about 68 = .ok (.getfield 13, 3) := by decide +kernel
theorem dX11_about_71 : decode cX11_about 71 = .ok (.iload_n 1, 1) := by decide +kernel
theorem dX11_about_72 : decode cX11_about 72 = .ok (.iaload, 1) := by decide +kernel
theorem dX11_about_73 : decode cX11_about 73 = .ok (.ireturn, 1) := by decide +kernel
theorem dX11_about_74 : decode cX11_about 74 = .ok (.aload_n 0, 1) := by decide +kernel
theorem dX11_about_75 : decode cX11_about 75 = .ok (.iload_n 1, 1) := by decide +kernel
theorem dX11_about_76 : decode cX11_about 76 = .ok (.invokevirtual 197, 3) := by decide +kernel
theorem dX11_about_79 : decode cX11_about 79 = .ok (.ireturn, 1) := by decide +kernel
theorem dX11_about_80 : decode cX11_about 80 = .ok (.aload_n 0, 1) := by decide +kernel
theorem dX11_about_81 : decode cX11_about 81 = .ok (.iload_n 1, 1) := by decide +kernel
theorem dX11_about_82 : decode cX11_about 82 = .ok (.invokevirtual 200, 3) := by decide +kernel
theorem dX11_about_85 : decode cX11_about 85 = .ok (.ifCond .eq 7, 3) := by decide +kernel
theorem dX11_about_88 : decode cX11_about 88 = .ok (.iconst 1, 1) := by decide +kernel
theorem dX11_about_89 : decode cX11_about 89 = .ok (.goto 4, 3) := by decide +kernel
theorem dX11_about_92 : decode cX11_about 92 = .ok (.iconst 0, 1) := by decide +kernel
theorem dX11_about_93 : decode cX11_about 93 = .ok (.ireturn, 1) := by decide +kernel
theorem dX11_about_94 : decode cX11_about 94 = .ok (.aload_n 0, 1) := by decide +kernel
theorem dX11_about_95 : decode cX11_about 95 = .ok (.getfield 22, 3) := by decide +kernel
theorem dX11_about_98 : decode cX11_about 98 = .ok (.iload_n 1, 1) := by decide +kernel
theorem dX11_about_99 : decode cX11_about 99 = .ok (.iaload, 1) := by decide +kernel
theorem dX11_about_100 : decode cX11_about 100 = .ok (.ireturn, 1) := by decide +kernel
theorem dX11_about_101 : decode cX11_about 101 = .ok (.aload_n 0, 1) := by decide +kernel
theorem dX11_about_102 : decode cX11_about 102 = .ok (.getfield 25, 3) := by decide +kernel
theorem dX11_about_105 : decode cX11_about 105 = .ok (.iload_n 1, 1) := by decide +kernel
theorem dX11_about_106 : decode cX11_about 106 = .ok (.iaload, 1) := by decide +kernel
theorem dX11_about_107 : decode cX11_about 107 = .ok (.ireturn, 1) := by decide +kernel
theorem dX11_about_108 : decode cX11_about 108 = .ok (.aload_n 0, 1) := by decide +kernel
theorem dX11_about_109 : decode cX11_about 109 = .ok (.getfield 31, 3) := by decide +kernel
theorem dX11_about_112 : decode cX11_about 112 = .ok (.iload_n 1, 1) := by decide +kernel
theorem dX11_about_113 : decode cX11_about 113 = .ok (.iaload, 1) := by decide +kernel
theorem dX11_about_114 : decode cX11_about 114 = .ok (.ireturn, 1) := by decide +kernel
theorem dX11_about_115 : decode cX11_about 115 = .ok (.aload_n 0, 1) := by decide +kernel
theorem dX11_about_116 : decode cX11_about 116 = .ok (.getfield 34, 3) := by decide +kernel
theorem dX11_about_119 : decode cX11_about 119 = .ok (.iload_n 1, 1) := by decide +kernel
theorem dX11_about_120 : decode cX11_about 120 = .ok (.iaload, 1) := by decide +kernel
theorem dX11_about_121 : decode cX11_about 121 = .ok (.ireturn, 1) := by decide +kernel
theorem dX11_about_122 : decode cX11_about 122 = .ok (.aload_n 0, 1) := by decide +kernel
theorem dX11_about_123 : decode cX11_about 123 = .ok (.getfield 28, 3) := by decide +kernel
theorem dX11_about_126 : decode cX11_about 126 = .ok (.iload_n 1, 1) := by decide +kernel
theorem dX11_about_127 : decode cX11_about 127 = .ok (.iaload, 1) := by decide +kernel
theorem dX11_about_128 : decode cX11_about 128 = .ok (.ireturn, 1) := by decide +kernel
theorem dX11_about_129 : decode cX11_about 129 = .ok (.iconst (-1), 1) := by decide +kernel
theorem dX11_about_130 : decode cX11_about 130 = .ok (.ireturn, 1) := by decide +kernel
theorem dX11_voice_0 : decode cX11_voice 0 = .ok (.aload_n 0, 1) := by decide +kernel
theorem dX11_voice_1 : decode cX11_voice 1 = .ok (.iload_n 1, 1) := by decide +kernel
theorem dX11_voice_2 : decode cX11_voice 2 = .ok (.invokevirtual 162, 3) := by decide +kernel
theorem dX11_voice_5 : decode cX11_voice 5 = .ok (.ifCond .eq 28, 3) := by decide +kernel
theorem dX11_voice_8 : decode cX11_voice 8 = .ok (.iload_n 2, 1) := by decide +kernel
theorem dX11_voice_9 : decode cX11_voice 9 = .ok (.i2l, 1) := by decide +kernel
theorem dX11_voice_10 : decode cX11_voice 10 = .ok (.lconst 0, 1) := by decide +kernel
theorem dX11_voice_11 : decode cX11_voice 11 = .ok (.ldc2_w 156, 3) := by decide +kernel
theorem dX11_voice_14 : decode cX11_voice 14 = .ok (.invokestatic 145, 3) := by decide +kernel
theorem dX11_voice_17 : decode cX11_voice 17 = .ok (.ifCond .eq 16, 3) := by decide +kernel
theorem dX11_voice_20 : decode cX11_voice 20 = .ok (.aload_n 0, 1) := by decide +kernel
theorem dX11_voice_21 : decode cX11_voice 21 = .ok (.getfield 16, 3) := by decide +kernel
theorem dX11_voice_24 : decode cX11_voice 24 = .ok (.iconst 4, 1) := by decide +kernel
theorem dX11_voice_25 : decode cX11_voice 25 = .ok (.iload_n 1, 1) := by decide +kernel
theorem dX11_voice_26 : decode cX11_voice 26 = .ok (.imul, 1) := by decide +kernel
theorem dX11_voice_27 : decode cX11_voice 27 = .ok (.iload_n 2, 1) := by decide +kernel
theorem dX11_voice_28 : decode cX11_voice 28 = .ok (.iadd, 1) := by decide +kernel
theorem dX11_voice_29 : decode cX11_voice 29 = .ok (.iaload, 1) := by decide +kernel
theorem dX11_voice_30 : decode cX11_voice 30 = .ok (.goto 4, 3) := by decide +kernel
theorem dX11_voice_33 : decode cX11_voice 33 = .ok (.iconst (-1), 1) := by decide +kernel
theorem dX11_voice_34 : decode cX11_voice 34 = .ok (.ireturn, 1) := by decide +kernel
theorem dX11_feed_0 : decode cX11_feed 0 = .ok (.iload_n 3, 1) := by decide +kernel
theorem dX11_feed_1 : decode cX11_feed 1 = .ok (.i2l, 1) := by decide +kernel
theorem dX11_feed_2 : decode cX11_feed 2 = .ok (.lconst 1, 1) := by decide +kernel
theorem dX11_feed_3 : decode cX11_feed 3 = .ok (.ldc2_w 203, 3) := by decide +kernel
theorem dX11_feed_6 : decode cX11_feed 6 = .ok (.invokestatic 145, 3) := by decide +kernel
theorem dX11_feed_9 : decode cX11_feed 9 = .ok (.ifCond .ne 6, 3) := by decide +kernel
theorem dX11_feed_12 : decode cX11_feed 12 = .ok (.bipush (-2), 2) := by decide +kernel
theorem dX11_feed_14 : decode cX11_feed 14 = .ok (.ireturn, 1) := by decide +kernel
theorem dX11_feed_15 : decode cX11_feed 15 = .ok (.aload_n 0, 1) := by decide +kernel
theorem dX11_feed_16 : decode cX11_feed 16 = .ok (.getfield 205, 3) := by decide +kernel
theorem dX11_feed_19 : decode cX11_feed 19 = .ok (.iload_n 3, 1) := by decide +kernel
theorem dX11_feed_20 : decode cX11_feed 20 = .ok (.iadd, 1) := by decide +kernel
theorem dX11_feed_21 : decode cX11_feed 21 = .ok (.bipush 120, 2) := by decide +kernel
theorem dX11_feed_23 : decode cX11_feed 23 = .ok (.if_icmp .le 6, 3) := by decide +kernel
theorem dX11_feed_26 : decode cX11_feed 26 = .ok (.bipush (-4), 2) := by decide +kernel
theorem dX11_feed_28 : decode cX11_feed 28 = .ok (.ireturn, 1) := by decide +kernel
theorem dX11_feed_29 : decode cX11_feed 29 = .ok (.iload_n 3, 1) := by decide +kernel
theorem dX11_feed_30 : decode cX11_feed 30 = .ok (.iconst 1, 1) := by decide +kernel
theorem dX11_feed_31 : decode cX11_feed 31 = .ok (.isub, 1) := by decide +kernel
theorem dX11_feed_32 : decode cX11_feed 32 = .ok (.istore 4, 2) := by decide +kernel
theorem dX11_feed_34 : decode cX11_feed 34 = .ok (.iload 4, 2) := by decide +kernel
theorem dX11_feed_36 : decode cX11_feed 36 = .ok (.ifCond .lt 37, 3) := by decide +kernel
theorem dX11_feed_39 : decode cX11_feed 39 = .ok (.aload_n 0, 1) := by decide +kernel
theorem dX11_feed_40 : decode cX11_feed 40 = .ok (.getfield 55, 3) := by decide +kernel
theorem dX11_feed_43 : decode cX11_feed 43 = .ok (.aload_n 0, 1) := by decide +kernel
theorem dX11_feed_44 : decode cX11_feed 44 = .ok (.getfield 205, 3) := by decide +kernel
theorem dX11_feed_47 : decode cX11_feed 47 = .ok (.lload_n 1, 1) := by decide +kernel
theorem dX11_feed_48 : decode cX11_feed 48 = .ok (.bipush 8, 2) := by decide +kernel
theorem dX11_feed_50 : decode cX11_feed 50 = .ok (.iload 4, 2) := by decide +kernel
theorem dX11_feed_52 : decode cX11_feed 52 = .ok (.imul, 1) := by decide +kernel
theorem dX11_feed_53 : decode cX11_feed 53 = .ok (.lshr, 1) := by decide +kernel
theorem dX11_feed_54 : decode cX11_feed 54 = .ok (.l2i, 1) := by decide +kernel
theorem dX11_feed_55 : decode cX11_feed 55 = .ok (.i2b, 1) := by decide +kernel
theorem dX11_feed_56 : decode cX11_feed 56 = .ok (.bastore, 1) := by decide +kernel
theorem dX11_feed_57 : decode cX11_feed 57 = .ok (.aload_n 0, 1) := by decide +kernel
theorem dX11_feed_58 : decode cX11_feed 58 = .ok (.dup, 1) := by decide +kernel
theorem dX11_feed_59 : decode cX11_feed 59 = .ok (.getfield 205, 3) := by decide +kernel
theorem dX11_feed_62 : decode cX11_feed 62 = .ok (.iconst 1, 1) := by decide +kernel
theorem dX11_feed_63 : decode cX11_feed 63 = .ok (.iadd, 1) := by decide +kernel
theorem dX11_feed_64 : decode cX11_feed 64 = .ok (.putfield 205, 3) := by decide +kernel
theorem dX11_feed_67 : decode cX11_feed 67 = .ok (.iinc 4 (-1), 3) := by decide +kernel
theorem dX11_feed_70 : decode cX11_feed 70 = .ok (.goto (-36), 3) := by decide +kernel
theorem dX11_feed_73 : decode cX11_feed 73 = .ok (.aload_n 0, 1) := by decide +kernel
theorem dX11_feed_74 : decode cX11_feed 74 = .ok (.getfield 205, 3) := by decide +kernel
theorem dX11_feed_77 : decode cX11_feed 77 = .ok (.ireturn, 1) := by decide +kernel
theorem dX11_letter_0 : decode cX11_letter 0 = .ok (.aload_n 0, 1) := by decide +kernel
theorem dX11_letter_1 : decode cX11_letter 1 = .ok (.getfield 208, 3) := by decide +kernel
theorem dX11_letter_4 : decode cX11_letter 4 = .ok (.aload_n 0, 1) := by decide +kernel
theorem dX11_letter_5 : decode cX11_letter 5 = .ok (.getfield 205, 3) := by decide +kernel
theorem dX11_letter_8 : decode cX11_letter 8 = .ok (.if_icmp .ge 19, 3) := by decide +kernel
theorem dX11_letter_11 : decode cX11_letter 11 = .ok (.aload_n 0, 1) := by decide +kernel
theorem dX11_letter_12 : decode cX11_letter 12 = .ok (.getfield 55, 3) := by decide +kernel
theorem dX11_letter_15 : decode cX11_letter 15 = .ok (.aload_n 0, 1) := by decide +kernel
theorem dX11_letter_16 : decode cX11_letter 16 = .ok (.getfield 208, 3) := by decide +kernel
theorem dX11_letter_19 : decode cX11_letter 19 = .ok (.baload, 1) := by decide +kernel
theorem dX11_letter_20 : decode cX11_letter 20 = .ok (.sipush 255, 3) := by decide +kernel
theorem dX11_letter_23 : decode cX11_letter 23 = .ok (.iand, 1) := by decide +kernel
theorem dX11_letter_24 : decode cX11_letter 24 = .ok (.goto 4, 3) := by decide +kernel
theorem dX11_letter_27 : decode cX11_letter 27 = .ok (.iconst (-1), 1) := by decide +kernel
theorem dX11_letter_28 : decode cX11_letter 28 = .ok (.ireturn, 1) := by decide +kernel
theorem dX11_expect_0 : decode cX11_expect 0 = .ok (.iload_n 1, 1) := by decide +kernel
theorem dX11_expect_1 : decode cX11_expect 1 = .ok (.iconst 1, 1) := by decide +kernel
theorem dX11_expect_2 : decode cX11_expect 2 = .ok (.isub, 1) := by decide +kernel
theorem dX11_expect_3 : decode cX11_expect 3 = .ok (.istore 4, 2) := by decide +kernel
theorem dX11_expect_5 : decode cX11_expect 5 = .ok (.iload 4, 2) := by decide +kernel
theorem dX11_expect_7 : decode cX11_expect 7 = .ok (.ifCond .lt 57, 3) := by decide +kernel
theorem dX11_expect_10 : decode cX11_expect 10 = .ok (.aload_n 0, 1) := by decide +kernel
theorem dX11_expect_11 : decode cX11_expect 11 = .ok (.getfield 211, 3) := by decide +kernel
theorem dX11_expect_14 : decode cX11_expect 14 = .ok (.ifCond .ge 50, 3) := by decide +kernel
theorem dX11_expect_17 : decode cX11_expect 17 = .ok (.aload_n 0, 1) := by decide +kernel
theorem dX11_expect_18 : decode cX11_expect 18 = .ok (.invokevirtual 214, 3) := by decide +kernel
theorem dX11_expect_21 : decode cX11_expect 21 = .ok (.i2l, 1) := by decide +kernel
theorem dX11_expect_22 : decode cX11_expect 22 = .ok (.lload_n 2, 1) := by decide +kernel
theorem dX11_expect_23 : decode cX11_expect 23 = .ok (.bipush 8, 2) := by decide +kernel
theorem dX11_expect_25 : decode cX11_expect 25 = .ok (.iload 4, 2) := by decide +kernel
theorem dX11_expect_27 : decode cX11_expect 27 = .ok (.imul, 1) := by decide +kernel
theorem dX11_expect_28 : decode cX11_expect 28 = .ok (.lshr, 1) := by decide +kernel
theorem dX11_expect_29 : decode cX11_expect 29 = .ok (.ldc2_w 218, 3) := by decide +kernel
theorem dX11_expect_32 : decode cX11_expect 32 = .ok (.land, 1) := by decide +kernel
theorem dX11_expect_33 : decode cX11_expect 33 = .ok (.lcmp, 1) := by decide +kernel
theorem dX11_expect_34 : decode cX11_expect 34 = .ok (.ifCond .eq 14, 3) := by decide +kernel
theorem dX11_expect_37 : decode cX11_expect 37 = .ok (.aload_n 0, 1) := by decide +kernel
theorem dX11_expect_38 : decode cX11_expect 38 = .ok (.aload_n 0, 1) := by decide +kernel
theorem dX11_expect_39 : decode cX11_expect 39 = .ok (.getfield 208, 3) := by decide +kernel
theorem dX11_expect_42 : decode cX11_expect 42 = .ok (.putfield 211, 3) := by decide +kernel
theorem dX11_expect_45 : decode cX11_expect 45 = .ok (.goto 13, 3) := by decide +kernel
theorem dX11_expect_48 : decode cX11_expect 48 = .ok (.aload_n 0, 1) := by decide +kernel
theorem dX11_expect_49 : decode cX11_expect 49 = .ok (.dup, 1) := by decide +kernel
theorem dX11_expect_50 : decode cX11_expect 50 = .ok (.getfield 208, 3) := by decide +kernel
theorem dX11_expect_53 : decode cX11_expect 53 = .ok (.iconst 1, 1) := by decide +kernel
theorem dX11_expect_54 : decode cX11_expect 54 = .ok (.iadd, 1) := by decide +kernel
theorem dX11_expect_55 : decode cX11_expect 55 = .ok (.putfield 208, 3) := by decide +kernel
theorem dX11_expect_58 : decode cX11_expect 58 = .ok (.iinc 4 (-1), 3) := by decide +kernel
theorem dX11_expect_61 : decode cX11_expect 61 = .ok (.goto (-56), 3) := by decide +kernel
theorem dX11_expect_64 : decode cX11_expect 64 = .ok (.return_, 1) := by decide +kernel
theorem dX11_isDigit_0 : decode cX11_isDigit 0 = .ok (.iload_n 0, 1) := by decide +kernel
theorem dX11_isDigit_1 : decode cX11_isDigit 1 = .ok (.bipush 48, 2) := by decide +kernel
theorem dX11_isDigit_3 : decode cX11_isDigit 3 = .ok (.if_icmp .lt 13, 3) := by decide +kernel
theorem dX11_isDigit_6 : decode cX11_isDigit 6 = .ok (.iload_n 0, 1) := by decide +kernel
theorem dX11_isDigit_7 : decode cX11_isDigit 7 = .ok (.bipush 57, 2) := by decide +kernel
theorem dX11_isDigit_9 : decode cX11_isDigit 9 = .ok (.if_icmp .gt 7, 3) := by decide +kernel
theorem dX11_isDigit_12 : decode cX11_isDigit 12 = .ok (.iconst 1, 1) := by decide +kernel
theorem dX11_isDigit_13 : decode cX11_isDigit 13 = .ok (.goto 4, 3) := by decide +kernel
theorem dX11_isDigit_16 : decode cX11_isDigit 16 = .ok (.iconst 0, 1) := by decide +kernel
theorem dX11_isDigit_17 : decode cX11_isDigit 17 = .ok (.ireturn, 1) := by decide +kernel
theorem dX11_readTest_0 : decode cX11_readTest 0 = .ok (.iconst 0, 1) := by decide +kernel
theorem dX11_readTest_1 : decode cX11_readTest 1 = .ok (.istore_n 2, 1) := by decide +kernel
theorem dX11_readTest_2 : decode cX11_readTest 2 = .ok (.iconst 0, 1) := by decide +kernel
theorem dX11_readTest_3 : decode cX11_readTest 3 = .ok (.istore_n 3, 1) := by decide +kernel
theorem dX11_readTest_4 : decode cX11_readTest 4 = .ok (.iload_n 3, 1) := by decide +kernel
theorem dX11_readTest_5 : decode cX11_readTest 5 = .ok (.iconst 5, 1) := by decide +kernel
theorem dX11_readTest_6 : decode cX11_readTest 6 = .ok (.if_icmp .ge 33, 3) := by decide +kernel
theorem dX11_readTest_9 : decode cX11_readTest 9 = .ok (.aload_n 0, 1) := by decide +kernel
theorem dX11_readTest_10 : decode cX11_readTest 10 = .ok (.invokevirtual 214, 3) := by decide +kernel
theorem dX11_readTest_13 : decode cX11_readTest 13 = .ok (.aload_n 0, 1) := by decide +kernel
theorem dX11_readTest_14 : decode cX11_readTest 14 = .ok (.getfield 78, 3) := by decide +kernel
theorem dX11_readTest_17 : decode cX11_readTest 17 = .ok (.aload_n 0, 1) := by decide +kernel
theorem dX11_readTest_18 : decode cX11_readTest 18 = .ok (.getfield 82, 3) := by decide +kernel
theorem dX11_readTest_21 : decode cX11_readTest 21 = .ok (.iload_n 3, 1) := by decide +kernel
theorem dX11_readTest_22 : decode cX11_readTest 22 = .ok (.iaload, 1) := by decide +kernel
theorem dX11_readTest_23 : decode cX11_readTest 23 = .ok (.caload, 1) := by decide +kernel
theorem dX11_readTest_24 : decode cX11_readTest 24 = .ok (.if_icmp .ne 7, 3) := by decide +kernel
theorem dX11_readTest_27 : decode cX11_readTest 27 = .ok (.iload_n 3, 1) := by decide +kernel
theorem dX11_readTest_28 : decode cX11_readTest 28 = .ok (.goto 4, 3) := by decide +kernel
theorem dX11_readTest_31 : decode cX11_readTest 31 = .ok (.iload_n 2, 1) := by decide +kernel
theorem dX11_readTest_32 : decode cX11_readTest 32 = .ok (.istore_n 2, 1) := by decide +kernel
theorem dX11_readTest_33 : decode cX11_readTest 33 = .ok (.iinc 3 1, 3) := by decide +kernel
theorem dX11_readTest_36 : decode cX11_readTest 36 = .ok (.goto (-32), 3) := by decide +kernel
theorem dX11_readTest_39 : decode cX11_readTest 39 = .ok (.aload_n 0, 1) := by decide +kernel
theorem dX11_readTest_40 : decode cX11_readTest 40 = .ok (.getfield 69, 3) := by decide +kernel
theorem dX11_readTest_43 : decode cX11_readTest 43 = .ok (.iload_n 1, 1) := by decide +kernel
theorem dX11_readTest_44 : decode cX11_readTest 44 = .ok (.iload_n 2, 1) := by decide +kernel
theorem dX11_readTest_45 : decode cX11_readTest 45 = .ok (.iastore, 1) := by decide +kernel
theorem dX11_readTest_46 : decode cX11_readTest 46 = .ok (.iconst 0, 1) := by decide +kernel
theorem dX11_readTest_47 : decode cX11_readTest 47 = .ok (.istore_n 3, 1) := by decide +kernel
theorem dX11_readTest_48 : decode cX11_readTest 48 = .ok (.iload_n 3, 1) := by decide +kernel
theorem dX11_readTest_49 : decode cX11_readTest 49 = .ok (.aload_n 0, 1) := by decide +kernel
theorem dX11_readTest_50 : decode cX11_readTest 50 = .ok (.getfield 85, 3) := by decide +kernel
theorem dX11_readTest_53 : decode cX11_readTest 53 = .ok (.iload_n 2, 1) := by decide +kernel
theorem dX11_readTest_54 : decode cX11_readTest 54 = .ok (.iaload, 1) := by decide +kernel
theorem dX11_readTest_55 : decode cX11_readTest 55 = .ok (.if_icmp .ge 35, 3) := by decide +kernel
theorem dX11_readTest_58 : decode cX11_readTest 58 = .ok (.aload_n 0, 1) := by decide +kernel
theorem dX11_readTest_59 : decode cX11_readTest 59 = .ok (.getfield 211, 3) := by decide +kernel
theorem dX11_readTest_62 : decode cX11_readTest 62 = .ok (.ifCond .ge 28, 3) := by decide +kernel
theorem dX11_readTest_65 : decode cX11_readTest 65 = .ok (.aload_n 0, 1) := by decide +kernel
theorem dX11_readTest_66 : decode cX11_readTest 66 = .ok (.iconst 1, 1) := by decide +kernel
theorem dX11_readTest_67 : decode cX11_readTest 67 = .ok (.aload_n 0, 1) := by decide +kernel
theorem dX11_readTest_68 : decode cX11_readTest 68 = .ok (.getfield 78, 3) := by decide +kernel
theorem dX11_readTest_71 : decode cX11_readTest 71 = .ok (.aload_n 0, 1) := by decide +kernel
theorem dX11_readTest_72 : decode cX11_readTest 72 = .ok (.getfield 82, 3) := by decide +kernel
theorem dX11_readTest_75 : decode cX11_readTest 75 = .ok (.iload_n 2, 1) := by decide +kernel
theorem dX11_readTest_76 : decode cX11_readTest 76 = .ok (.iaload, 1) := by decide +kernel
theorem dX11_readTest_77 : decode cX11_readTest 77 = .ok (.iload_n 3, 1) := by decide +kernel
theorem dX11_readTest_78 : decode cX11_readTest 78 = .ok (.iadd, 1) := by decide +kernel
theorem dX11_readTest_79 : decode cX11_readTest 79 = .ok (.caload, 1) := by decide +kernel
theorem dX11_readTest_80 : decode cX11_readTest 80 = .ok (.i2l, 1) := by decide +kernel
theorem dX11_readTest_81 : decode cX11_readTest 81 = .ok (.invokevirtual 220, 3) := by decide +kernel
theorem dX11_readTest_84 : decode cX11_readTest 84 = .ok (.iinc 3 1, 3) := by decide +kernel
theorem dX11_readTest_87 : decode cX11_readTest 87 = .ok (.goto (-39), 3) := by decide +kernel
theorem dX11_readTest_90 : decode cX11_readTest 90 = .ok (.aload_n 0, 1) := by decide +kernel
theorem dX11_readTest_91 : decode cX11_readTest 91 = .ok (.getfield 211, 3) := by decide +kernel
theorem dX11_readTest_94 : decode cX11_readTest 94 = .ok (.ifCond .ge 78, 3) := by decide +kernel
theorem dX11_readTest_97 : decode cX11_readTest 97 = .ok (.aload_n 0, 1) := by decide +kernel
theorem dX11_readTest_98 : decode cX11_readTest 98 = .ok (.invokevirtual 214, 3) := by decide +kernel
theorem dX11_readTest_101 : decode cX11_readTest 101 = .ok (.istore_n 3, 1) := by decide +kernel
theorem dX11_readTest_102 : decode cX11_readTest 102 = .ok (.aload_n 0, 1) := by decide +kernel
theorem dX11_readTest_103 : decode cX11_readTest 103 = .ok (.getfield 72, 3) := by decide +kernel
