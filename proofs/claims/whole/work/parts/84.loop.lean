/-! THE LAW'S LOOP; printed by wip/whole/p84.py -/
theorem c_0_23 : jx_cd 0 23 = some (o_ild 4 2) := rfl
theorem c_0_25 : jx_cd 0 25 = some (o_ald 0 1) := rfl
theorem c_0_26 : jx_cd 0 26 = some (o_alen) := rfl
theorem c_0_27 : jx_cd 0 27 = some (o_push (.int 4) 1) := rfl
theorem c_0_28 : jx_cd 0 28 = some (o_bin fun x y => x - y) := rfl
theorem c_0_29 : jx_cd 0 29 = some (o_igt 553) := rfl
theorem c_0_32 : jx_cd 0 32 = some (o_ald 0 1) := rfl
theorem c_0_33 : jx_cd 0 33 = some (o_ild 4 2) := rfl
theorem c_0_35 : jx_cd 0 35 = some (o_iald) := rfl
theorem c_0_36 : jx_cd 0 36 = some (o_push (.int 15) 2) := rfl
theorem c_0_38 : jx_cd 0 38 = some (o_bin fun x y => x &&& y) := rfl
theorem c_0_39 : jx_cd 0 39 = some (o_table 547 [104, 161, 172, 216, 260, 304, 329, 385, 410, 423, 436, 461, 498]) := rfl
theorem c_0_104 : jx_cd 0 104 = some (o_ald 1 1) := rfl
theorem c_0_105 : jx_cd 0 105 = some (o_ald 0 1) := rfl
theorem c_0_106 : jx_cd 0 106 = some (o_ild 4 2) := rfl
theorem c_0_108 : jx_cd 0 108 = some (o_push (.int 1) 1) := rfl
theorem c_0_109 : jx_cd 0 109 = some (o_bin fun x y => x + y) := rfl
theorem c_0_110 : jx_cd 0 110 = some (o_iald) := rfl
theorem c_0_111 : jx_cd 0 111 = some (o_i2l) := rfl
theorem c_0_112 : jx_cd 0 112 = some (o_push (.int 32) 2) := rfl
theorem c_0_114 : jx_cd 0 114 = some (o_shl fun x y => x <<< (y.toInt64 &&& 63)) := rfl
theorem c_0_115 : jx_cd 0 115 = some (o_ald 0 1) := rfl
theorem c_0_116 : jx_cd 0 116 = some (o_ild 4 2) := rfl
theorem c_0_118 : jx_cd 0 118 = some (o_push (.int 2) 1) := rfl
theorem c_0_119 : jx_cd 0 119 = some (o_bin fun x y => x + y) := rfl
theorem c_0_120 : jx_cd 0 120 = some (o_iald) := rfl
theorem c_0_121 : jx_cd 0 121 = some (o_i2l) := rfl
theorem c_0_122 : jx_cd 0 122 = some (o_push (.long 4294967295) 3) := rfl
theorem c_0_125 : jx_cd 0 125 = some (o_binl fun x y => x &&& y) := rfl
theorem c_0_126 : jx_cd 0 126 = some (o_binl fun x y => x ||| y) := rfl
theorem c_0_127 : jx_cd 0 127 = some (o_callv 5 48 1) := rfl
theorem c_0_130 : jx_cd 0 130 = some (o_ald 2 1) := rfl
theorem c_0_131 : jx_cd 0 131 = some (o_ald 0 1) := rfl
theorem c_0_132 : jx_cd 0 132 = some (o_ild 4 2) := rfl
theorem c_0_134 : jx_cd 0 134 = some (o_push (.int 1) 1) := rfl
theorem c_0_135 : jx_cd 0 135 = some (o_bin fun x y => x + y) := rfl
theorem c_0_136 : jx_cd 0 136 = some (o_iald) := rfl
theorem c_0_137 : jx_cd 0 137 = some (o_i2l) := rfl
theorem c_0_138 : jx_cd 0 138 = some (o_push (.int 32) 2) := rfl
theorem c_0_140 : jx_cd 0 140 = some (o_shl fun x y => x <<< (y.toInt64 &&& 63)) := rfl
theorem c_0_141 : jx_cd 0 141 = some (o_ald 0 1) := rfl
theorem c_0_142 : jx_cd 0 142 = some (o_ild 4 2) := rfl
theorem c_0_144 : jx_cd 0 144 = some (o_push (.int 2) 1) := rfl
theorem c_0_145 : jx_cd 0 145 = some (o_bin fun x y => x + y) := rfl
theorem c_0_146 : jx_cd 0 146 = some (o_iald) := rfl
theorem c_0_147 : jx_cd 0 147 = some (o_i2l) := rfl
theorem c_0_148 : jx_cd 0 148 = some (o_push (.long 4294967295) 3) := rfl
theorem c_0_151 : jx_cd 0 151 = some (o_binl fun x y => x &&& y) := rfl
theorem c_0_152 : jx_cd 0 152 = some (o_binl fun x y => x ||| y) := rfl
theorem c_0_153 : jx_cd 0 153 = some (o_callv 6 71 1) := rfl
theorem c_0_156 : jx_cd 0 156 = some (o_ieq 547) := rfl
theorem c_0_161 : jx_cd 0 161 = some (o_ald 1 1) := rfl
theorem c_0_162 : jx_cd 0 162 = some (o_callv 5 51 0) := rfl
theorem c_0_165 : jx_cd 0 165 = some (o_ald 2 1) := rfl
theorem c_0_166 : jx_cd 0 166 = some (o_callv 6 72 0) := rfl
theorem c_0_169 : jx_cd 0 169 = some (o_goto 547) := rfl
theorem c_0_172 : jx_cd 0 172 = some (o_ald 1 1) := rfl
theorem c_0_173 : jx_cd 0 173 = some (o_ald 3 1) := rfl
theorem c_0_174 : jx_cd 0 174 = some (o_call 117 2) := rfl
theorem c_0_177 : jx_cd 0 177 = some (o_ist 5 2) := rfl
theorem c_0_179 : jx_cd 0 179 = some (o_ald 2 1) := rfl
theorem c_0_180 : jx_cd 0 180 = some (o_callv 6 73 0) := rfl
theorem c_0_183 : jx_cd 0 183 = some (o_ist 6 2) := rfl
theorem c_0_185 : jx_cd 0 185 = some (o_ald 2 1) := rfl
theorem c_0_186 : jx_cd 0 186 = some (o_callv 6 70 0) := rfl
theorem c_0_189 : jx_cd 0 189 = some (o_ild 5 2) := rfl
theorem c_0_191 : jx_cd 0 191 = some (o_ieq 196) := rfl
theorem c_0_196 : jx_cd 0 196 = some (o_ild 5 2) := rfl
theorem c_0_198 : jx_cd 0 198 = some (o_ifne 213) := rfl
set_option maxRecDepth 100000 in
theorem c_0_201 : jx_cd 0 201 = some (o_ald 3 1) := rfl
set_option maxRecDepth 100000 in
theorem c_0_202 : jx_cd 0 202 = some (o_push (.int 0) 1) := rfl
set_option maxRecDepth 100000 in
theorem c_0_203 : jx_cd 0 203 = some (o_lald) := rfl
set_option maxRecDepth 100000 in
theorem c_0_204 : jx_cd 0 204 = some (o_ild 6 2) := rfl
set_option maxRecDepth 100000 in
theorem c_0_206 : jx_cd 0 206 = some (o_i2l) := rfl
set_option maxRecDepth 100000 in
theorem c_0_207 : jx_cd 0 207 = some (o_lcmp) := rfl
set_option maxRecDepth 100000 in
theorem c_0_208 : jx_cd 0 208 = some (o_ifeq 213) := rfl
set_option maxRecDepth 100000 in
theorem c_0_213 : jx_cd 0 213 = some (o_goto 547) := rfl
set_option maxRecDepth 100000 in
theorem c_0_216 : jx_cd 0 216 = some (o_ald 1 1) := rfl
set_option maxRecDepth 100000 in
theorem c_0_217 : jx_cd 0 217 = some (o_ald 3 1) := rfl
set_option maxRecDepth 100000 in
theorem c_0_218 : jx_cd 0 218 = some (o_call 118 2) := rfl
set_option maxRecDepth 100000 in
theorem c_0_221 : jx_cd 0 221 = some (o_ist 5 2) := rfl
set_option maxRecDepth 100000 in
theorem c_0_223 : jx_cd 0 223 = some (o_ald 2 1) := rfl
set_option maxRecDepth 100000 in
theorem c_0_224 : jx_cd 0 224 = some (o_callv 6 101 0) := rfl
set_option maxRecDepth 100000 in
theorem c_0_227 : jx_cd 0 227 = some (o_ist 6 2) := rfl
set_option maxRecDepth 100000 in
theorem c_0_229 : jx_cd 0 229 = some (o_ald 2 1) := rfl
set_option maxRecDepth 100000 in
theorem c_0_230 : jx_cd 0 230 = some (o_callv 6 70 0) := rfl
set_option maxRecDepth 100000 in
theorem c_0_233 : jx_cd 0 233 = some (o_ild 5 2) := rfl
set_option maxRecDepth 100000 in
theorem c_0_235 : jx_cd 0 235 = some (o_ieq 240) := rfl
set_option maxRecDepth 100000 in
theorem c_0_240 : jx_cd 0 240 = some (o_ild 5 2) := rfl
set_option maxRecDepth 100000 in
theorem c_0_242 : jx_cd 0 242 = some (o_ifne 257) := rfl
set_option maxRecDepth 100000 in
theorem c_0_245 : jx_cd 0 245 = some (o_ald 3 1) := rfl
set_option maxRecDepth 100000 in
theorem c_0_246 : jx_cd 0 246 = some (o_push (.int 0) 1) := rfl
set_option maxRecDepth 100000 in
theorem c_0_247 : jx_cd 0 247 = some (o_lald) := rfl
set_option maxRecDepth 100000 in
theorem c_0_248 : jx_cd 0 248 = some (o_ild 6 2) := rfl
set_option maxRecDepth 100000 in
theorem c_0_250 : jx_cd 0 250 = some (o_i2l) := rfl
set_option maxRecDepth 100000 in
theorem c_0_251 : jx_cd 0 251 = some (o_lcmp) := rfl
set_option maxRecDepth 100000 in
theorem c_0_252 : jx_cd 0 252 = some (o_ifeq 257) := rfl
set_option maxRecDepth 100000 in
theorem c_0_257 : jx_cd 0 257 = some (o_goto 547) := rfl
set_option maxRecDepth 100000 in
theorem c_0_260 : jx_cd 0 260 = some (o_ald 1 1) := rfl
set_option maxRecDepth 100000 in
theorem c_0_261 : jx_cd 0 261 = some (o_ald 3 1) := rfl
set_option maxRecDepth 100000 in
theorem c_0_262 : jx_cd 0 262 = some (o_call 119 2) := rfl
set_option maxRecDepth 100000 in
theorem c_0_265 : jx_cd 0 265 = some (o_ist 5 2) := rfl
set_option maxRecDepth 100000 in
theorem c_0_267 : jx_cd 0 267 = some (o_ald 2 1) := rfl
set_option maxRecDepth 100000 in
theorem c_0_268 : jx_cd 0 268 = some (o_callv 6 102 0) := rfl
set_option maxRecDepth 100000 in
theorem c_0_271 : jx_cd 0 271 = some (o_ist 6 2) := rfl
set_option maxRecDepth 100000 in
theorem c_0_273 : jx_cd 0 273 = some (o_ald 2 1) := rfl
set_option maxRecDepth 100000 in
theorem c_0_274 : jx_cd 0 274 = some (o_callv 6 70 0) := rfl
set_option maxRecDepth 100000 in
theorem c_0_277 : jx_cd 0 277 = some (o_ild 5 2) := rfl
set_option maxRecDepth 100000 in
theorem c_0_279 : jx_cd 0 279 = some (o_ieq 284) := rfl
set_option maxRecDepth 100000 in
theorem c_0_284 : jx_cd 0 284 = some (o_ild 5 2) := rfl
set_option maxRecDepth 100000 in
theorem c_0_286 : jx_cd 0 286 = some (o_ifne 301) := rfl
set_option maxRecDepth 100000 in
theorem c_0_289 : jx_cd 0 289 = some (o_ald 3 1) := rfl
set_option maxRecDepth 100000 in
theorem c_0_290 : jx_cd 0 290 = some (o_push (.int 0) 1) := rfl
set_option maxRecDepth 100000 in
theorem c_0_291 : jx_cd 0 291 = some (o_lald) := rfl
set_option maxRecDepth 100000 in
theorem c_0_292 : jx_cd 0 292 = some (o_ild 6 2) := rfl
set_option maxRecDepth 100000 in
theorem c_0_294 : jx_cd 0 294 = some (o_i2l) := rfl
set_option maxRecDepth 100000 in
theorem c_0_295 : jx_cd 0 295 = some (o_lcmp) := rfl
set_option maxRecDepth 100000 in
theorem c_0_296 : jx_cd 0 296 = some (o_ifeq 301) := rfl
set_option maxRecDepth 100000 in
theorem c_0_301 : jx_cd 0 301 = some (o_goto 547) := rfl
set_option maxRecDepth 100000 in
theorem c_0_304 : jx_cd 0 304 = some (o_ald 1 1) := rfl
set_option maxRecDepth 100000 in
theorem c_0_305 : jx_cd 0 305 = some (o_ald 0 1) := rfl
set_option maxRecDepth 100000 in
theorem c_0_306 : jx_cd 0 306 = some (o_ild 4 2) := rfl
set_option maxRecDepth 100000 in
theorem c_0_308 : jx_cd 0 308 = some (o_push (.int 1) 1) := rfl
set_option maxRecDepth 100000 in
theorem c_0_309 : jx_cd 0 309 = some (o_bin fun x y => x + y) := rfl
set_option maxRecDepth 100000 in
theorem c_0_310 : jx_cd 0 310 = some (o_iald) := rfl
set_option maxRecDepth 100000 in
theorem c_0_311 : jx_cd 0 311 = some (o_callv 5 52 1) := rfl
set_option maxRecDepth 100000 in
theorem c_0_314 : jx_cd 0 314 = some (o_ald 2 1) := rfl
set_option maxRecDepth 100000 in
theorem c_0_315 : jx_cd 0 315 = some (o_ald 0 1) := rfl
set_option maxRecDepth 100000 in
theorem c_0_316 : jx_cd 0 316 = some (o_ild 4 2) := rfl
set_option maxRecDepth 100000 in
theorem c_0_318 : jx_cd 0 318 = some (o_push (.int 1) 1) := rfl
set_option maxRecDepth 100000 in
theorem c_0_319 : jx_cd 0 319 = some (o_bin fun x y => x + y) := rfl
set_option maxRecDepth 100000 in
theorem c_0_320 : jx_cd 0 320 = some (o_iald) := rfl
set_option maxRecDepth 100000 in
theorem c_0_321 : jx_cd 0 321 = some (o_callv 6 103 1) := rfl
set_option maxRecDepth 100000 in
theorem c_0_324 : jx_cd 0 324 = some (o_ieq 547) := rfl
set_option maxRecDepth 100000 in
theorem c_0_329 : jx_cd 0 329 = some (o_ald 1 1) := rfl
set_option maxRecDepth 100000 in
theorem c_0_330 : jx_cd 0 330 = some (o_ald 0 1) := rfl
set_option maxRecDepth 100000 in
theorem c_0_331 : jx_cd 0 331 = some (o_ild 4 2) := rfl
set_option maxRecDepth 100000 in
theorem c_0_333 : jx_cd 0 333 = some (o_push (.int 1) 1) := rfl
set_option maxRecDepth 100000 in
theorem c_0_334 : jx_cd 0 334 = some (o_bin fun x y => x + y) := rfl
set_option maxRecDepth 100000 in
theorem c_0_335 : jx_cd 0 335 = some (o_iald) := rfl
set_option maxRecDepth 100000 in
theorem c_0_336 : jx_cd 0 336 = some (o_ald 3 1) := rfl
set_option maxRecDepth 100000 in
theorem c_0_337 : jx_cd 0 337 = some (o_call 120 3) := rfl
set_option maxRecDepth 100000 in
theorem c_0_340 : jx_cd 0 340 = some (o_ist 5 2) := rfl
set_option maxRecDepth 100000 in
theorem c_0_342 : jx_cd 0 342 = some (o_ald 2 1) := rfl
set_option maxRecDepth 100000 in
theorem c_0_343 : jx_cd 0 343 = some (o_ald 0 1) := rfl
set_option maxRecDepth 100000 in
theorem c_0_344 : jx_cd 0 344 = some (o_ild 4 2) := rfl
set_option maxRecDepth 100000 in
theorem c_0_346 : jx_cd 0 346 = some (o_push (.int 1) 1) := rfl
set_option maxRecDepth 100000 in
theorem c_0_347 : jx_cd 0 347 = some (o_bin fun x y => x + y) := rfl
set_option maxRecDepth 100000 in
theorem c_0_348 : jx_cd 0 348 = some (o_iald) := rfl
set_option maxRecDepth 100000 in
theorem c_0_349 : jx_cd 0 349 = some (o_callv 6 104 1) := rfl
set_option maxRecDepth 100000 in
theorem c_0_352 : jx_cd 0 352 = some (o_ist 6 2) := rfl
set_option maxRecDepth 100000 in
theorem c_0_354 : jx_cd 0 354 = some (o_ald 2 1) := rfl
set_option maxRecDepth 100000 in
theorem c_0_355 : jx_cd 0 355 = some (o_callv 6 70 0) := rfl
set_option maxRecDepth 100000 in
theorem c_0_358 : jx_cd 0 358 = some (o_ild 5 2) := rfl
set_option maxRecDepth 100000 in
theorem c_0_360 : jx_cd 0 360 = some (o_ieq 365) := rfl
set_option maxRecDepth 100000 in
theorem c_0_365 : jx_cd 0 365 = some (o_ild 5 2) := rfl
set_option maxRecDepth 100000 in
theorem c_0_367 : jx_cd 0 367 = some (o_ifne 382) := rfl
set_option maxRecDepth 100000 in
theorem c_0_370 : jx_cd 0 370 = some (o_ald 3 1) := rfl
set_option maxRecDepth 100000 in
theorem c_0_371 : jx_cd 0 371 = some (o_push (.int 0) 1) := rfl
set_option maxRecDepth 100000 in
theorem c_0_372 : jx_cd 0 372 = some (o_lald) := rfl
set_option maxRecDepth 100000 in
theorem c_0_373 : jx_cd 0 373 = some (o_ild 6 2) := rfl
set_option maxRecDepth 100000 in
theorem c_0_375 : jx_cd 0 375 = some (o_i2l) := rfl
set_option maxRecDepth 100000 in
theorem c_0_376 : jx_cd 0 376 = some (o_lcmp) := rfl
set_option maxRecDepth 100000 in
theorem c_0_377 : jx_cd 0 377 = some (o_ifeq 382) := rfl
set_option maxRecDepth 100000 in
theorem c_0_382 : jx_cd 0 382 = some (o_goto 547) := rfl
set_option maxRecDepth 100000 in
theorem c_0_385 : jx_cd 0 385 = some (o_ald 1 1) := rfl
set_option maxRecDepth 100000 in
theorem c_0_386 : jx_cd 0 386 = some (o_ald 0 1) := rfl
set_option maxRecDepth 100000 in
theorem c_0_387 : jx_cd 0 387 = some (o_ild 4 2) := rfl
set_option maxRecDepth 100000 in
theorem c_0_389 : jx_cd 0 389 = some (o_push (.int 1) 1) := rfl
set_option maxRecDepth 100000 in
theorem c_0_390 : jx_cd 0 390 = some (o_bin fun x y => x + y) := rfl
set_option maxRecDepth 100000 in
theorem c_0_391 : jx_cd 0 391 = some (o_iald) := rfl
set_option maxRecDepth 100000 in
theorem c_0_392 : jx_cd 0 392 = some (o_callv 5 53 1) := rfl
set_option maxRecDepth 100000 in
theorem c_0_395 : jx_cd 0 395 = some (o_ald 2 1) := rfl
set_option maxRecDepth 100000 in
theorem c_0_396 : jx_cd 0 396 = some (o_ald 0 1) := rfl
set_option maxRecDepth 100000 in
theorem c_0_397 : jx_cd 0 397 = some (o_ild 4 2) := rfl
set_option maxRecDepth 100000 in
theorem c_0_399 : jx_cd 0 399 = some (o_push (.int 1) 1) := rfl
set_option maxRecDepth 100000 in
theorem c_0_400 : jx_cd 0 400 = some (o_bin fun x y => x + y) := rfl
set_option maxRecDepth 100000 in
theorem c_0_401 : jx_cd 0 401 = some (o_iald) := rfl
set_option maxRecDepth 100000 in
theorem c_0_402 : jx_cd 0 402 = some (o_callv 6 105 1) := rfl
set_option maxRecDepth 100000 in
theorem c_0_405 : jx_cd 0 405 = some (o_ieq 547) := rfl
set_option maxRecDepth 100000 in
theorem c_0_410 : jx_cd 0 410 = some (o_ald 1 1) := rfl
set_option maxRecDepth 100000 in
theorem c_0_411 : jx_cd 0 411 = some (o_callv 5 54 0) := rfl
set_option maxRecDepth 100000 in
theorem c_0_414 : jx_cd 0 414 = some (o_ald 2 1) := rfl
set_option maxRecDepth 100000 in
theorem c_0_415 : jx_cd 0 415 = some (o_callv 6 106 0) := rfl
set_option maxRecDepth 100000 in
theorem c_0_418 : jx_cd 0 418 = some (o_ieq 547) := rfl
set_option maxRecDepth 100000 in
theorem c_0_423 : jx_cd 0 423 = some (o_ald 1 1) := rfl
set_option maxRecDepth 100000 in
theorem c_0_424 : jx_cd 0 424 = some (o_callv 5 56 0) := rfl
set_option maxRecDepth 100000 in
theorem c_0_427 : jx_cd 0 427 = some (o_ald 2 1) := rfl
set_option maxRecDepth 100000 in
theorem c_0_428 : jx_cd 0 428 = some (o_callv 6 107 0) := rfl
set_option maxRecDepth 100000 in
theorem c_0_431 : jx_cd 0 431 = some (o_ieq 547) := rfl
set_option maxRecDepth 100000 in
theorem c_0_436 : jx_cd 0 436 = some (o_ald 1 1) := rfl
set_option maxRecDepth 100000 in
theorem c_0_437 : jx_cd 0 437 = some (o_ald 0 1) := rfl
set_option maxRecDepth 100000 in
theorem c_0_438 : jx_cd 0 438 = some (o_ild 4 2) := rfl
set_option maxRecDepth 100000 in
theorem c_0_440 : jx_cd 0 440 = some (o_push (.int 1) 1) := rfl
set_option maxRecDepth 100000 in
theorem c_0_441 : jx_cd 0 441 = some (o_bin fun x y => x + y) := rfl
set_option maxRecDepth 100000 in
theorem c_0_442 : jx_cd 0 442 = some (o_iald) := rfl
set_option maxRecDepth 100000 in
theorem c_0_443 : jx_cd 0 443 = some (o_callv 5 57 1) := rfl
set_option maxRecDepth 100000 in
theorem c_0_446 : jx_cd 0 446 = some (o_ald 2 1) := rfl
set_option maxRecDepth 100000 in
theorem c_0_447 : jx_cd 0 447 = some (o_ald 0 1) := rfl
set_option maxRecDepth 100000 in
theorem c_0_448 : jx_cd 0 448 = some (o_ild 4 2) := rfl
set_option maxRecDepth 100000 in
theorem c_0_450 : jx_cd 0 450 = some (o_push (.int 1) 1) := rfl
set_option maxRecDepth 100000 in
theorem c_0_451 : jx_cd 0 451 = some (o_bin fun x y => x + y) := rfl
set_option maxRecDepth 100000 in
theorem c_0_452 : jx_cd 0 452 = some (o_iald) := rfl
set_option maxRecDepth 100000 in
theorem c_0_453 : jx_cd 0 453 = some (o_callv 6 108 1) := rfl
set_option maxRecDepth 100000 in
theorem c_0_456 : jx_cd 0 456 = some (o_ieq 547) := rfl
set_option maxRecDepth 100000 in
theorem c_0_461 : jx_cd 0 461 = some (o_ald 1 1) := rfl
set_option maxRecDepth 100000 in
theorem c_0_462 : jx_cd 0 462 = some (o_ald 0 1) := rfl
set_option maxRecDepth 100000 in
theorem c_0_463 : jx_cd 0 463 = some (o_ild 4 2) := rfl
set_option maxRecDepth 100000 in
theorem c_0_465 : jx_cd 0 465 = some (o_push (.int 1) 1) := rfl
set_option maxRecDepth 100000 in
theorem c_0_466 : jx_cd 0 466 = some (o_bin fun x y => x + y) := rfl
set_option maxRecDepth 100000 in
theorem c_0_467 : jx_cd 0 467 = some (o_iald) := rfl
set_option maxRecDepth 100000 in
theorem c_0_468 : jx_cd 0 468 = some (o_ald 0 1) := rfl
set_option maxRecDepth 100000 in
theorem c_0_469 : jx_cd 0 469 = some (o_ild 4 2) := rfl
set_option maxRecDepth 100000 in
theorem c_0_471 : jx_cd 0 471 = some (o_push (.int 2) 1) := rfl
set_option maxRecDepth 100000 in
theorem c_0_472 : jx_cd 0 472 = some (o_bin fun x y => x + y) := rfl
set_option maxRecDepth 100000 in
theorem c_0_473 : jx_cd 0 473 = some (o_iald) := rfl
set_option maxRecDepth 100000 in
theorem c_0_474 : jx_cd 0 474 = some (o_callv 5 59 2) := rfl
set_option maxRecDepth 100000 in
theorem c_0_477 : jx_cd 0 477 = some (o_ald 2 1) := rfl
set_option maxRecDepth 100000 in
theorem c_0_478 : jx_cd 0 478 = some (o_ald 0 1) := rfl
set_option maxRecDepth 100000 in
theorem c_0_479 : jx_cd 0 479 = some (o_ild 4 2) := rfl
set_option maxRecDepth 100000 in
theorem c_0_481 : jx_cd 0 481 = some (o_push (.int 1) 1) := rfl
set_option maxRecDepth 100000 in
theorem c_0_482 : jx_cd 0 482 = some (o_bin fun x y => x + y) := rfl
set_option maxRecDepth 100000 in
theorem c_0_483 : jx_cd 0 483 = some (o_iald) := rfl
set_option maxRecDepth 100000 in
theorem c_0_484 : jx_cd 0 484 = some (o_ald 0 1) := rfl
set_option maxRecDepth 100000 in
theorem c_0_485 : jx_cd 0 485 = some (o_ild 4 2) := rfl
set_option maxRecDepth 100000 in
theorem c_0_487 : jx_cd 0 487 = some (o_push (.int 2) 1) := rfl
set_option maxRecDepth 100000 in
theorem c_0_488 : jx_cd 0 488 = some (o_bin fun x y => x + y) := rfl
set_option maxRecDepth 100000 in
theorem c_0_489 : jx_cd 0 489 = some (o_iald) := rfl
set_option maxRecDepth 100000 in
theorem c_0_490 : jx_cd 0 490 = some (o_callv 6 109 2) := rfl
set_option maxRecDepth 100000 in
theorem c_0_493 : jx_cd 0 493 = some (o_ieq 547) := rfl
set_option maxRecDepth 100000 in
theorem c_0_498 : jx_cd 0 498 = some (o_ald 1 1) := rfl
set_option maxRecDepth 100000 in
theorem c_0_499 : jx_cd 0 499 = some (o_ald 0 1) := rfl
set_option maxRecDepth 100000 in
theorem c_0_500 : jx_cd 0 500 = some (o_ild 4 2) := rfl
set_option maxRecDepth 100000 in
theorem c_0_502 : jx_cd 0 502 = some (o_push (.int 1) 1) := rfl
set_option maxRecDepth 100000 in
theorem c_0_503 : jx_cd 0 503 = some (o_bin fun x y => x + y) := rfl
set_option maxRecDepth 100000 in
theorem c_0_504 : jx_cd 0 504 = some (o_iald) := rfl
set_option maxRecDepth 100000 in
theorem c_0_505 : jx_cd 0 505 = some (o_ald 0 1) := rfl
set_option maxRecDepth 100000 in
theorem c_0_506 : jx_cd 0 506 = some (o_ild 4 2) := rfl
set_option maxRecDepth 100000 in
theorem c_0_508 : jx_cd 0 508 = some (o_push (.int 2) 1) := rfl
set_option maxRecDepth 100000 in
theorem c_0_509 : jx_cd 0 509 = some (o_bin fun x y => x + y) := rfl
set_option maxRecDepth 100000 in
theorem c_0_510 : jx_cd 0 510 = some (o_iald) := rfl
set_option maxRecDepth 100000 in
theorem c_0_511 : jx_cd 0 511 = some (o_ald 0 1) := rfl
set_option maxRecDepth 100000 in
theorem c_0_512 : jx_cd 0 512 = some (o_ild 4 2) := rfl
set_option maxRecDepth 100000 in
theorem c_0_514 : jx_cd 0 514 = some (o_push (.int 3) 1) := rfl
set_option maxRecDepth 100000 in
theorem c_0_515 : jx_cd 0 515 = some (o_bin fun x y => x + y) := rfl
set_option maxRecDepth 100000 in
theorem c_0_516 : jx_cd 0 516 = some (o_iald) := rfl
set_option maxRecDepth 100000 in
theorem c_0_517 : jx_cd 0 517 = some (o_callv 5 60 3) := rfl
set_option maxRecDepth 100000 in
theorem c_0_520 : jx_cd 0 520 = some (o_ald 2 1) := rfl
set_option maxRecDepth 100000 in
theorem c_0_521 : jx_cd 0 521 = some (o_ald 0 1) := rfl
set_option maxRecDepth 100000 in
theorem c_0_522 : jx_cd 0 522 = some (o_ild 4 2) := rfl
set_option maxRecDepth 100000 in
theorem c_0_524 : jx_cd 0 524 = some (o_push (.int 1) 1) := rfl
set_option maxRecDepth 100000 in
theorem c_0_525 : jx_cd 0 525 = some (o_bin fun x y => x + y) := rfl
set_option maxRecDepth 100000 in
theorem c_0_526 : jx_cd 0 526 = some (o_iald) := rfl
set_option maxRecDepth 100000 in
theorem c_0_527 : jx_cd 0 527 = some (o_ald 0 1) := rfl
set_option maxRecDepth 100000 in
theorem c_0_528 : jx_cd 0 528 = some (o_ild 4 2) := rfl
set_option maxRecDepth 100000 in
theorem c_0_530 : jx_cd 0 530 = some (o_push (.int 2) 1) := rfl
set_option maxRecDepth 100000 in
theorem c_0_531 : jx_cd 0 531 = some (o_bin fun x y => x + y) := rfl
set_option maxRecDepth 100000 in
theorem c_0_532 : jx_cd 0 532 = some (o_iald) := rfl
set_option maxRecDepth 100000 in
theorem c_0_533 : jx_cd 0 533 = some (o_ald 0 1) := rfl
set_option maxRecDepth 100000 in
theorem c_0_534 : jx_cd 0 534 = some (o_ild 4 2) := rfl
set_option maxRecDepth 100000 in
theorem c_0_536 : jx_cd 0 536 = some (o_push (.int 3) 1) := rfl
set_option maxRecDepth 100000 in
theorem c_0_537 : jx_cd 0 537 = some (o_bin fun x y => x + y) := rfl
set_option maxRecDepth 100000 in
theorem c_0_538 : jx_cd 0 538 = some (o_iald) := rfl
set_option maxRecDepth 100000 in
theorem c_0_539 : jx_cd 0 539 = some (o_callv 6 110 3) := rfl
set_option maxRecDepth 100000 in
theorem c_0_542 : jx_cd 0 542 = some (o_ieq 547) := rfl
set_option maxRecDepth 100000 in
theorem c_0_547 : jx_cd 0 547 = some (o_iinc 4 4) := rfl
set_option maxRecDepth 100000 in
theorem c_0_550 : jx_cd 0 550 = some (o_goto 23) := rfl
set_option maxRecDepth 100000 in
theorem c_0_553 : jx_cd 0 553 = some (o_push (.int 1) 1) := rfl
set_option maxRecDepth 100000 in
theorem c_0_554 : jx_cd 0 554 = some (o_zret) := rfl
section LP
variable {L : Nat} {xs : Nat → Int32} {M : jx_M} {q th d : Nat}
theorem rT_16 (h : rT L xs M q th) : ∃ ty hc tf dn, M.1 16 = xO ty hc tf dn := by
  obtain ⟨ty, tx, hc, hit, tf, dn, p, sz, li, ids, G, mk, rm, id, Z, lg, li2, dn2, ss, ids', szs, E, al, S, sb, fnd, ⟨hI, -⟩, -⟩ := h
  exact ⟨_, _, _, _, hI.1.1⟩
theorem rT_92 (h : rT L xs M q th) : ∃ w ln at_ n gd, M.1 92 = mW w ln at_ n gd := by
  obtain ⟨ty, tx, hc, hit, tf, dn, p, sz, li, ids, G, mk, rm, id, Z, lg, li2, dn2, ss, ids', szs, E, al, S, sb, fnd, ⟨-, hJ, -⟩, -⟩ := h
  obtain ⟨⟨at_, n, gd, A, bm, bk, oa, ol, H⟩, -⟩ := hJ
  exact ⟨_, _, _, _, _, H.1⟩
theorem rT_0 (h : rT L xs M q th) : M.1 0 = .inl (9, L, .inl xs) := by
  obtain ⟨ty, tx, hc, hit, tf, dn, p, sz, li, ids, G, mk, rm, id, Z, lg, li2, dn2, ss, ids', szs, E, al, S, sb, fnd, ⟨-, -, h0, -⟩, -⟩ := h
  exact h0
theorem rT_thr (h : rT L xs M q th) : jZ d 70 0 [some (.ref 92)] [] M (jR (some (.int (jn th))) M) := by
  obtain ⟨ty, tx, hc, hit, tf, dn, p, sz, li, ids, G, mk, rm, id, Z, lg, li2, dn2, ss, ids', szs, E, al, S, sb, fnd, ⟨-, hJ, -⟩, -⟩ := h
  exact t_mthr hJ
theorem rT_le (h : rT L xs M (q + 1) th) : rT L xs M q th := by
  obtain ⟨ty, tx, hc, hit, tf, dn, p, sz, li, ids, G, mk, rm, id, Z, lg, li2, dn2, ss, ids', szs, E, al, S, sb, fnd, ⟨hI, hJ, h0, ho, hb⟩, ht, hh, htf, hli, hx⟩ := h
  refine ⟨ty, tx, hc, hit, tf, dn, p, sz, li, ids, G, mk, rm, id, Z, lg, li2, dn2, ss, ids', szs, E, al, S, sb, fnd, ⟨hI, hJ, h0, ho, ?_⟩, ht, hh, htf, by omega, hx⟩
  unfold jBud at *
  omega
theorem and15 (y : Int32) : ∃ k, k < 16 ∧ y &&& (jn 15) = jn k := by
  refine ⟨(y.toBitVec &&& 15#32).toNat, ?_, ?_⟩
  · rw [BitVec.toNat_and]
    exact Nat.lt_of_le_of_lt Nat.and_le_right (by decide)
  · apply Int32.toBitVec_inj.mp
    rw [Int32.toBitVec_and]
    show y.toBitVec &&& 15#32 = BitVec.ofNat 32 _
    rw [BitVec.ofNat_toNat, BitVec.setWidth_eq]
theorem lim4 {i : Nat} (hi : i < 4096) (hL : L < 4096) : jn L - jn 4 < jn i ↔ L < i + 4 := by
  by_cases h : 4 ≤ L
  · rw [jn_sub h, jn_lt (by omega) (by omega)]
    omega
  · have h0 : jn L - jn 4 < 0 := (by decide : ∀ L, L < 4 → jn L - jn 4 < 0) L (by omega)
    have h1 : (0 : Int32) ≤ jn i := Int32.not_lt.mp (jn_ge i (by omega))
    exact ⟨fun _ => by omega, fun _ => Int32.lt_of_lt_of_le h0 h1⟩
theorem z_table {mi pc : Nat} {LL : jx_L} {r : List Value} {post : jx_R → jx_M → Prop} (t : Nat) {dflt : Nat} {ts : List Nat} {x : Int32} (hc : jx_cd mi pc = some (o_table dflt ts)) (ht : (if x < 0 then dflt else ts.getD x.toNatClampNeg dflt) = t) (kk : jZ d mi t LL r M post) : jZ d mi pc LL (.int x :: r) M post := by
  refine z_go t LL r M hc ?_ kk
  unfold o_table
  dsimp only
  rw [ht]
theorem cmp_same (x : Int64) : lg_cmp x x = 0 := by
  unfold lg_cmp
  simp
theorem t_loop (hL : L ≤ 2048) : ∀ {q i th : Nat} {z5 z6 : Option Value} {M : jx_M}, L < i + 4 * q + 4 → i ≤ L + 4 → rT L xs M q th → jZ (d + 21) 0 23 [some (.ref 0), some (.ref 16), some (.ref 92), some (.ref 119), some (.int (jn i)), z5, z6] [] M (fun r _ => r = .inl (some (.int (jn 1)))) := by
  intro q
  induction q with
  | zero =>
    intro i th z5 z6 M hq hi hR
    obtain ⟨ty1, hc1, tf1, dn1, h16⟩ := rT_16 hR
    obtain ⟨w, ln, at_, n1, gd, h92⟩ := rT_92 hR
    have h0 := rT_0 hR
    refine z_go 25 _ [.int (jn i)] _ c_0_23 rfl ?_
    refine z_go 26 _ [.ref 0, .int (jn i)] _ c_0_25 rfl ?_
    refine z_alen 27 c_0_26 rfl h0 (by decide) ?_
    refine z_go 28 _ [.int (jn 4), .int (jn L), .int (jn i)] _ c_0_27 rfl ?_
    refine z_go 29 _ [.int (((jn L)) - ((jn 4))), .int (jn i)] _ c_0_28 rfl ?_
    refine z_igtR 553 32 c_0_29 rfl (lim4 (by omega) (by omega)) (fun hx => ?_) (fun hx => ?_)
    · refine z_go 554 _ [.int (jn 1)] _ c_0_553 rfl ?_
      refine z_zret (b := true) c_0_554 ?_
      exact rfl
    · omega
  | succ q ih =>
    intro i th z5 z6 M hq hi hR
    obtain ⟨ty1, hc1, tf1, dn1, h16⟩ := rT_16 hR
    obtain ⟨w, ln, at_, n1, gd, h92⟩ := rT_92 hR
    have h0 := rT_0 hR
    refine z_go 25 _ [.int (jn i)] _ c_0_23 rfl ?_
    refine z_go 26 _ [.ref 0, .int (jn i)] _ c_0_25 rfl ?_
    refine z_alen 27 c_0_26 rfl h0 (by decide) ?_
    refine z_go 28 _ [.int (jn 4), .int (jn L), .int (jn i)] _ c_0_27 rfl ?_
    refine z_go 29 _ [.int (((jn L)) - ((jn 4))), .int (jn i)] _ c_0_28 rfl ?_
    refine z_igtR 553 32 c_0_29 rfl (lim4 (by omega) (by omega)) (fun hx => ?_) (fun hx => ?_)
    · refine z_go 554 _ [.int (jn 1)] _ c_0_553 rfl ?_
      refine z_zret (b := true) c_0_554 ?_
      exact rfl
    · have hi4 : i + 4 ≤ L := by omega
      refine z_go 33 _ [.ref 0] _ c_0_32 rfl ?_
      refine z_go 35 _ [.int (jn i), .ref 0] _ c_0_33 rfl ?_
      refine z_iald 36 c_0_35 rfl h0 (Or.inr rfl) (by omega) (by omega) ?_
      show jZ _ _ _ _ ([.int (xs i)]) _ _
      refine z_go 38 _ [.int (jn 15), .int (xs i)] _ c_0_36 rfl ?_
      refine z_go 39 _ [.int (((xs i)) &&& (jn 15))] _ c_0_38 rfl ?_
      obtain ⟨k, hk, ek⟩ := and15 (xs i)
      rw [ek]
      have hk16 : k = 0 ∨ k = 1 ∨ k = 2 ∨ k = 3 ∨ k = 4 ∨ k = 5 ∨ k = 6 ∨ k = 7 ∨ k = 8 ∨ k = 9 ∨ k = 10 ∨ k = 11 ∨ k = 12 ∨ 13 ≤ k := by omega
      rcases hk16 with rfl | rfl | rfl | rfl | rfl | rfl | rfl | rfl | rfl | rfl | rfl | rfl | rfl | hk13
      · refine z_table 104 c_0_39 (by decide) ?_
        refine z_go 105 _ [.ref 16] _ c_0_104 rfl ?_
        refine z_go 106 _ [.ref 0, .ref 16] _ c_0_105 rfl ?_
        refine z_go 108 _ [.int (jn i), .ref 0, .ref 16] _ c_0_106 rfl ?_
        refine z_go 109 _ [.int (jn 1), .int (jn i), .ref 0, .ref 16] _ c_0_108 rfl ?_
        refine z_go 110 _ [.int ((jn i) + (jn 1)), .ref 0, .ref 16] _ c_0_109 rfl ?_
        refine z_v (jn_add _ _) ?_
        refine z_iald 111 c_0_110 rfl h0 (Or.inr rfl) (by omega) (by omega) ?_
        show jZ _ _ _ _ ([.int (xs (i + 1)), .ref 16]) _ _
        refine z_go 112 _ [.long (((xs (i + 1))).toInt64), .ref 16] _ c_0_111 rfl ?_
        refine z_go 114 _ [.int (jn 32), .long (((xs (i + 1))).toInt64), .ref 16] _ c_0_112 rfl ?_
        refine z_go 115 _ [.long ((fun (x : Int64) (y : Int32) => x <<< (y.toInt64 &&& 63)) (((xs (i + 1))).toInt64) (jn 32)), .ref 16] _ c_0_114 rfl ?_
        refine z_go 116 _ [.ref 0, .long ((fun (x : Int64) (y : Int32) => x <<< (y.toInt64 &&& 63)) (((xs (i + 1))).toInt64) (jn 32)), .ref 16] _ c_0_115 rfl ?_
        refine z_go 118 _ [.int (jn i), .ref 0, .long ((fun (x : Int64) (y : Int32) => x <<< (y.toInt64 &&& 63)) (((xs (i + 1))).toInt64) (jn 32)), .ref 16] _ c_0_116 rfl ?_
        refine z_go 119 _ [.int (jn 2), .int (jn i), .ref 0, .long ((fun (x : Int64) (y : Int32) => x <<< (y.toInt64 &&& 63)) (((xs (i + 1))).toInt64) (jn 32)), .ref 16] _ c_0_118 rfl ?_
        refine z_go 120 _ [.int ((jn i) + (jn 2)), .ref 0, .long ((fun (x : Int64) (y : Int32) => x <<< (y.toInt64 &&& 63)) (((xs (i + 1))).toInt64) (jn 32)), .ref 16] _ c_0_119 rfl ?_
        refine z_v (jn_add _ _) ?_
        refine z_iald 121 c_0_120 rfl h0 (Or.inr rfl) (by omega) (by omega) ?_
        show jZ _ _ _ _ ([.int (xs (i + 2)), .long ((fun (x : Int64) (y : Int32) => x <<< (y.toInt64 &&& 63)) (((xs (i + 1))).toInt64) (jn 32)), .ref 16]) _ _
        refine z_go 122 _ [.long (((xs (i + 2))).toInt64), .long ((fun (x : Int64) (y : Int32) => x <<< (y.toInt64 &&& 63)) (((xs (i + 1))).toInt64) (jn 32)), .ref 16] _ c_0_121 rfl ?_
        refine z_go 125 _ [.long 4294967295, .long (((xs (i + 2))).toInt64), .long ((fun (x : Int64) (y : Int32) => x <<< (y.toInt64 &&& 63)) (((xs (i + 1))).toInt64) (jn 32)), .ref 16] _ c_0_122 rfl ?_
        refine z_go 126 _ [.long ((fun (x y : Int64) => x &&& y) (((xs (i + 2))).toInt64) 4294967295), .long ((fun (x : Int64) (y : Int32) => x <<< (y.toInt64 &&& 63)) (((xs (i + 1))).toInt64) (jn 32)), .ref 16] _ c_0_125 rfl ?_
        refine z_go 127 _ [.long ((fun (x y : Int64) => x ||| y) ((fun (x : Int64) (y : Int32) => x <<< (y.toInt64 &&& 63)) (((xs (i + 1))).toInt64) (jn 32)) ((fun (x y : Int64) => x &&& y) (((xs (i + 2))).toInt64) 4294967295)), .ref 16] _ c_0_126 rfl ?_
        obtain ⟨v, h2⟩ := S_type (d := d) hR (e := (fun (x y : Int64) => x ||| y) ((fun (x : Int64) (y : Int32) => x <<< (y.toInt64 &&& 63)) (((xs (i + 1))).toInt64) (jn 32)) ((fun (x y : Int64) => x &&& y) (((xs (i + 2))).toInt64) 4294967295))
        refine z_callvV 130 5 48 1 16 c_0_127 rfl ⟨Nat.le_of_ble_eq_true rfl, Nat.le_of_ble_eq_true rfl⟩ rfl h16 [.ref 16, .long ((fun (x y : Int64) => x ||| y) ((fun (x : Int64) (y : Int32) => x <<< (y.toInt64 &&& 63)) (((xs (i + 1))).toInt64) (jn 32)) ((fun (x y : Int64) => x &&& y) (((xs (i + 2))).toInt64) 4294967295))] rfl rfl [some (.ref 16), some (.long ((fun (x y : Int64) => x ||| y) ((fun (x : Int64) (y : Int32) => x <<< (y.toInt64 &&& 63)) (((xs (i + 1))).toInt64) (jn 32)) ((fun (x y : Int64) => x &&& y) (((xs (i + 2))).toInt64) 4294967295))), none, none, none, none] rfl rfl (h2) ?_
        intro M1 ⟨h3, ⟨ty2, hc2, tf2, dn2, h161⟩, hz0, w2, ln2, at2, n2, gd2, h921⟩
        show jZ _ _ _ _ [.int v] _ _
        refine z_go 131 _ [.ref 92, .int v] _ c_0_130 rfl ?_
        refine z_go 132 _ [.ref 0, .ref 92, .int v] _ c_0_131 rfl ?_
        refine z_go 134 _ [.int (jn i), .ref 0, .ref 92, .int v] _ c_0_132 rfl ?_
        refine z_go 135 _ [.int (jn 1), .int (jn i), .ref 0, .ref 92, .int v] _ c_0_134 rfl ?_
        refine z_go 136 _ [.int ((jn i) + (jn 1)), .ref 0, .ref 92, .int v] _ c_0_135 rfl ?_
        refine z_v (jn_add _ _) ?_
        refine z_iald 137 c_0_136 rfl (hz0.trans h0) (Or.inr rfl) (by omega) (by omega) ?_
        show jZ _ _ _ _ ([.int (xs (i + 1)), .ref 92, .int v]) _ _
        refine z_go 138 _ [.long (((xs (i + 1))).toInt64), .ref 92, .int v] _ c_0_137 rfl ?_
        refine z_go 140 _ [.int (jn 32), .long (((xs (i + 1))).toInt64), .ref 92, .int v] _ c_0_138 rfl ?_
        refine z_go 141 _ [.long ((fun (x : Int64) (y : Int32) => x <<< (y.toInt64 &&& 63)) (((xs (i + 1))).toInt64) (jn 32)), .ref 92, .int v] _ c_0_140 rfl ?_
        refine z_go 142 _ [.ref 0, .long ((fun (x : Int64) (y : Int32) => x <<< (y.toInt64 &&& 63)) (((xs (i + 1))).toInt64) (jn 32)), .ref 92, .int v] _ c_0_141 rfl ?_
        refine z_go 144 _ [.int (jn i), .ref 0, .long ((fun (x : Int64) (y : Int32) => x <<< (y.toInt64 &&& 63)) (((xs (i + 1))).toInt64) (jn 32)), .ref 92, .int v] _ c_0_142 rfl ?_
        refine z_go 145 _ [.int (jn 2), .int (jn i), .ref 0, .long ((fun (x : Int64) (y : Int32) => x <<< (y.toInt64 &&& 63)) (((xs (i + 1))).toInt64) (jn 32)), .ref 92, .int v] _ c_0_144 rfl ?_
        refine z_go 146 _ [.int ((jn i) + (jn 2)), .ref 0, .long ((fun (x : Int64) (y : Int32) => x <<< (y.toInt64 &&& 63)) (((xs (i + 1))).toInt64) (jn 32)), .ref 92, .int v] _ c_0_145 rfl ?_
        refine z_v (jn_add _ _) ?_
        refine z_iald 147 c_0_146 rfl (hz0.trans h0) (Or.inr rfl) (by omega) (by omega) ?_
        show jZ _ _ _ _ ([.int (xs (i + 2)), .long ((fun (x : Int64) (y : Int32) => x <<< (y.toInt64 &&& 63)) (((xs (i + 1))).toInt64) (jn 32)), .ref 92, .int v]) _ _
        refine z_go 148 _ [.long (((xs (i + 2))).toInt64), .long ((fun (x : Int64) (y : Int32) => x <<< (y.toInt64 &&& 63)) (((xs (i + 1))).toInt64) (jn 32)), .ref 92, .int v] _ c_0_147 rfl ?_
        refine z_go 151 _ [.long 4294967295, .long (((xs (i + 2))).toInt64), .long ((fun (x : Int64) (y : Int32) => x <<< (y.toInt64 &&& 63)) (((xs (i + 1))).toInt64) (jn 32)), .ref 92, .int v] _ c_0_148 rfl ?_
        refine z_go 152 _ [.long ((fun (x y : Int64) => x &&& y) (((xs (i + 2))).toInt64) 4294967295), .long ((fun (x : Int64) (y : Int32) => x <<< (y.toInt64 &&& 63)) (((xs (i + 1))).toInt64) (jn 32)), .ref 92, .int v] _ c_0_151 rfl ?_
        refine z_go 153 _ [.long ((fun (x y : Int64) => x ||| y) ((fun (x : Int64) (y : Int32) => x <<< (y.toInt64 &&& 63)) (((xs (i + 1))).toInt64) (jn 32)) ((fun (x y : Int64) => x &&& y) (((xs (i + 2))).toInt64) 4294967295)), .ref 92, .int v] _ c_0_152 rfl ?_
        refine z_callvV 156 6 71 1 92 c_0_153 rfl ⟨Nat.le_of_ble_eq_true rfl, Nat.le_of_ble_eq_true rfl⟩ rfl h921 [.ref 92, .long ((fun (x y : Int64) => x ||| y) ((fun (x : Int64) (y : Int32) => x <<< (y.toInt64 &&& 63)) (((xs (i + 1))).toInt64) (jn 32)) ((fun (x y : Int64) => x &&& y) (((xs (i + 2))).toInt64) 4294967295))] rfl rfl [some (.ref 92), some (.long ((fun (x y : Int64) => x ||| y) ((fun (x : Int64) (y : Int32) => x <<< (y.toInt64 &&& 63)) (((xs (i + 1))).toInt64) (jn 32)) ((fun (x y : Int64) => x &&& y) (((xs (i + 2))).toInt64) 4294967295))), none, none, none, none, none] rfl rfl (h3) ?_
        intro M2 hR2
        show jZ _ _ _ _ [.int v, .int v] _ _
        refine z_ieq 547 159 c_0_156 rfl Iff.rfl (fun _ => ?_) (fun h => absurd rfl h)
        refine z_iinc 550 [some (.ref 0), some (.ref 16), some (.ref 92), some (.ref 119), some (.int (jn (i + 4))), z5, z6] c_0_547 rfl rfl (jn_add _ _) rfl ?_
        refine z_go 23 _ [] _ c_0_550 rfl ?_
        exact ih (M := M2) (by omega) (by omega) hR2
      · refine z_table 161 c_0_39 (by decide) ?_
        refine z_go 162 _ [.ref 16] _ c_0_161 rfl ?_
        have h2 := S_wipe (d := d) hR
        refine z_callvV 165 5 51 0 16 c_0_162 rfl ⟨Nat.le_of_ble_eq_true rfl, Nat.le_of_ble_eq_true rfl⟩ rfl h16 [.ref 16] rfl rfl [some (.ref 16)] rfl rfl (h2) ?_
        intro M1 ⟨h3, w2, ln2, at2, n2, gd2, h921⟩
        show jZ _ _ _ _ [] _ _
        refine z_go 166 _ [.ref 92] _ c_0_165 rfl ?_
        refine z_callvV 169 6 72 0 92 c_0_166 rfl ⟨Nat.le_of_ble_eq_true rfl, Nat.le_of_ble_eq_true rfl⟩ rfl h921 [.ref 92] rfl rfl [some (.ref 92)] rfl rfl (h3) ?_
        intro M2 hR2
        show jZ _ _ _ _ [] _ _
        refine z_go 547 _ [] _ c_0_169 rfl ?_
        refine z_iinc 550 [some (.ref 0), some (.ref 16), some (.ref 92), some (.ref 119), some (.int (jn (i + 4))), z5, z6] c_0_547 rfl rfl (jn_add _ _) rfl ?_
        refine z_go 23 _ [] _ c_0_550 rfl ?_
        exact ih (M := M2) (by omega) (by omega) hR2
      · refine z_table 172 c_0_39 (by decide) ?_
        refine z_go 173 _ [.ref 16] _ c_0_172 rfl ?_
        refine z_go 174 _ [.ref 119, .ref 16] _ c_0_173 rfl ?_
        obtain ⟨kk, v, b, hk6, hvb, h2⟩ := S_reg (d := d) hR
        refine z_callV 177 117 2 c_0_174 rfl ⟨Nat.le_of_ble_eq_true rfl, Nat.le_of_ble_eq_true rfl⟩ [.ref 16, .ref 119] rfl rfl [some (.ref 16), some (.ref 119), none] rfl rfl (h2) ?_
        intro M1 ⟨⟨w2, ln2, at2, n2, gd2, h921⟩, hz0, h3⟩
        show jZ _ _ _ _ [.int (jn kk)] _ _
        refine z_go 179 [some (.ref 0), some (.ref 16), some (.ref 92), some (.ref 119), some (.int (jn i)), some (.int (jn kk)), z6] [] _ c_0_177 rfl ?_
        refine z_go 180 _ [.ref 92] _ c_0_179 rfl ?_
        refine z_callvV 183 6 73 0 92 c_0_180 rfl ⟨Nat.le_of_ble_eq_true rfl, Nat.le_of_ble_eq_true rfl⟩ rfl h921 [.ref 92] rfl rfl [some (.ref 92), none, none, none] rfl rfl (h3) ?_
        intro M2 ⟨hR2, hout⟩
        obtain ⟨w3, ln3, at3, n3, gd3, h923⟩ := rT_92 hR2
        show jZ _ _ _ _ [.int b] _ _
        refine z_go 185 [some (.ref 0), some (.ref 16), some (.ref 92), some (.ref 119), some (.int (jn i)), some (.int (jn kk)), some (.int b)] [] _ c_0_183 rfl ?_
        refine z_go 186 _ [.ref 92] _ c_0_185 rfl ?_
        refine z_callv 189 6 70 0 92 c_0_186 rfl ⟨Nat.le_of_ble_eq_true rfl, Nat.le_of_ble_eq_true rfl⟩ rfl h923 [.ref 92] rfl rfl [some (.ref 92)] rfl rfl (rT_thr hR2) ?_
        show jZ _ _ _ _ [.int (jn kk)] _ _
        refine z_go 191 _ [.int (jn kk), .int (jn kk)] _ c_0_189 rfl ?_
        refine z_ieq 196 194 c_0_191 rfl Iff.rfl (fun _ => ?_) (fun h => absurd rfl h)
        refine z_go 198 _ [.int (jn kk)] _ c_0_196 rfl ?_
        refine z_ifne 213 201 c_0_198 rfl (jn_z (by omega)) (fun hk0 => ?_) (fun hk0 => ?_)
        · obtain ⟨f, hf1, hf2⟩ := hout hk0
          refine z_go 202 _ [.ref 119] _ c_0_201 rfl ?_
          refine z_go 203 _ [.int (jn 0), .ref 119] _ c_0_202 rfl ?_
          refine z_lald 204 c_0_203 rfl hf1 (by omega) (by omega) ?_
          show jZ _ _ _ _ ([.long (f 0)]) _ _
          refine z_go 206 _ [.int b, .long (f 0)] _ c_0_204 rfl ?_
          refine z_go 207 _ [.long b.toInt64, .long (f 0)] _ c_0_206 rfl ?_
          refine z_go 208 _ [.int (lg_cmp (f 0) b.toInt64)] _ c_0_207 rfl ?_
          rw [hf2, hvb hk0, cmp_same]
          refine z_ifeq 213 211 c_0_208 rfl Iff.rfl (fun _ => ?_) (fun h => absurd rfl h)
          refine z_go 547 _ [] _ c_0_213 rfl ?_
          refine z_iinc 550 [some (.ref 0), some (.ref 16), some (.ref 92), some (.ref 119), some (.int (jn (i + 4))), some (.int (jn kk)), some (.int b)] c_0_547 rfl rfl (jn_add _ _) rfl ?_
          refine z_go 23 _ [] _ c_0_550 rfl ?_
          exact ih (M := M2) (by omega) (by omega) hR2
        · refine z_go 547 _ [] _ c_0_213 rfl ?_
          refine z_iinc 550 [some (.ref 0), some (.ref 16), some (.ref 92), some (.ref 119), some (.int (jn (i + 4))), some (.int (jn kk)), some (.int b)] c_0_547 rfl rfl (jn_add _ _) rfl ?_
          refine z_go 23 _ [] _ c_0_550 rfl ?_
          exact ih (M := M2) (by omega) (by omega) hR2
      · refine z_table 216 c_0_39 (by decide) ?_
        refine z_go 217 _ [.ref 16] _ c_0_216 rfl ?_
        refine z_go 218 _ [.ref 119, .ref 16] _ c_0_217 rfl ?_
        obtain ⟨kk, v, b, hk6, hvb, h2⟩ := S_loo (d := d) hR
        refine z_callV 221 118 2 c_0_218 rfl ⟨Nat.le_of_ble_eq_true rfl, Nat.le_of_ble_eq_true rfl⟩ [.ref 16, .ref 119] rfl rfl [some (.ref 16), some (.ref 119), none] rfl rfl (h2) ?_
        intro M1 ⟨⟨w2, ln2, at2, n2, gd2, h921⟩, hz0, h3⟩
        show jZ _ _ _ _ [.int (jn kk)] _ _
        refine z_go 223 [some (.ref 0), some (.ref 16), some (.ref 92), some (.ref 119), some (.int (jn i)), some (.int (jn kk)), z6] [] _ c_0_221 rfl ?_
        refine z_go 224 _ [.ref 92] _ c_0_223 rfl ?_
        refine z_callvV 227 6 101 0 92 c_0_224 rfl ⟨Nat.le_of_ble_eq_true rfl, Nat.le_of_ble_eq_true rfl⟩ rfl h921 [.ref 92] rfl rfl [some (.ref 92), none, none] rfl rfl (h3) ?_
        intro M2 ⟨hR2, hout⟩
        obtain ⟨w3, ln3, at3, n3, gd3, h923⟩ := rT_92 hR2
        show jZ _ _ _ _ [.int b] _ _
        refine z_go 229 [some (.ref 0), some (.ref 16), some (.ref 92), some (.ref 119), some (.int (jn i)), some (.int (jn kk)), some (.int b)] [] _ c_0_227 rfl ?_
        refine z_go 230 _ [.ref 92] _ c_0_229 rfl ?_
        refine z_callv 233 6 70 0 92 c_0_230 rfl ⟨Nat.le_of_ble_eq_true rfl, Nat.le_of_ble_eq_true rfl⟩ rfl h923 [.ref 92] rfl rfl [some (.ref 92)] rfl rfl (rT_thr hR2) ?_
        show jZ _ _ _ _ [.int (jn kk)] _ _
        refine z_go 235 _ [.int (jn kk), .int (jn kk)] _ c_0_233 rfl ?_
        refine z_ieq 240 238 c_0_235 rfl Iff.rfl (fun _ => ?_) (fun h => absurd rfl h)
        refine z_go 242 _ [.int (jn kk)] _ c_0_240 rfl ?_
        refine z_ifne 257 245 c_0_242 rfl (jn_z (by omega)) (fun hk0 => ?_) (fun hk0 => ?_)
        · obtain ⟨f, hf1, hf2⟩ := hout hk0
          refine z_go 246 _ [.ref 119] _ c_0_245 rfl ?_
          refine z_go 247 _ [.int (jn 0), .ref 119] _ c_0_246 rfl ?_
          refine z_lald 248 c_0_247 rfl hf1 (by omega) (by omega) ?_
          show jZ _ _ _ _ ([.long (f 0)]) _ _
          refine z_go 250 _ [.int b, .long (f 0)] _ c_0_248 rfl ?_
          refine z_go 251 _ [.long b.toInt64, .long (f 0)] _ c_0_250 rfl ?_
          refine z_go 252 _ [.int (lg_cmp (f 0) b.toInt64)] _ c_0_251 rfl ?_
          rw [hf2, hvb hk0, cmp_same]
          refine z_ifeq 257 255 c_0_252 rfl Iff.rfl (fun _ => ?_) (fun h => absurd rfl h)
          refine z_go 547 _ [] _ c_0_257 rfl ?_
          refine z_iinc 550 [some (.ref 0), some (.ref 16), some (.ref 92), some (.ref 119), some (.int (jn (i + 4))), some (.int (jn kk)), some (.int b)] c_0_547 rfl rfl (jn_add _ _) rfl ?_
          refine z_go 23 _ [] _ c_0_550 rfl ?_
          exact ih (M := M2) (by omega) (by omega) hR2
        · refine z_go 547 _ [] _ c_0_257 rfl ?_
          refine z_iinc 550 [some (.ref 0), some (.ref 16), some (.ref 92), some (.ref 119), some (.int (jn (i + 4))), some (.int (jn kk)), some (.int b)] c_0_547 rfl rfl (jn_add _ _) rfl ?_
          refine z_go 23 _ [] _ c_0_550 rfl ?_
          exact ih (M := M2) (by omega) (by omega) hR2
      · refine z_table 260 c_0_39 (by decide) ?_
        refine z_go 261 _ [.ref 16] _ c_0_260 rfl ?_
        refine z_go 262 _ [.ref 119, .ref 16] _ c_0_261 rfl ?_
        obtain ⟨kk, v, b, hk6, hvb, h2⟩ := S_sea (d := d) hR
        refine z_callV 265 119 2 c_0_262 rfl ⟨Nat.le_of_ble_eq_true rfl, Nat.le_of_ble_eq_true rfl⟩ [.ref 16, .ref 119] rfl rfl [some (.ref 16), some (.ref 119), none] rfl rfl (h2) ?_
        intro M1 ⟨⟨w2, ln2, at2, n2, gd2, h921⟩, hz0, h3⟩
        show jZ _ _ _ _ [.int (jn kk)] _ _
        refine z_go 267 [some (.ref 0), some (.ref 16), some (.ref 92), some (.ref 119), some (.int (jn i)), some (.int (jn kk)), z6] [] _ c_0_265 rfl ?_
        refine z_go 268 _ [.ref 92] _ c_0_267 rfl ?_
        refine z_callvV 271 6 102 0 92 c_0_268 rfl ⟨Nat.le_of_ble_eq_true rfl, Nat.le_of_ble_eq_true rfl⟩ rfl h921 [.ref 92] rfl rfl [some (.ref 92), none] rfl rfl (h3) ?_
        intro M2 ⟨hR2, hout⟩
        obtain ⟨w3, ln3, at3, n3, gd3, h923⟩ := rT_92 hR2
        show jZ _ _ _ _ [.int b] _ _
        refine z_go 273 [some (.ref 0), some (.ref 16), some (.ref 92), some (.ref 119), some (.int (jn i)), some (.int (jn kk)), some (.int b)] [] _ c_0_271 rfl ?_
        refine z_go 274 _ [.ref 92] _ c_0_273 rfl ?_
        refine z_callv 277 6 70 0 92 c_0_274 rfl ⟨Nat.le_of_ble_eq_true rfl, Nat.le_of_ble_eq_true rfl⟩ rfl h923 [.ref 92] rfl rfl [some (.ref 92)] rfl rfl (rT_thr hR2) ?_
        show jZ _ _ _ _ [.int (jn kk)] _ _
        refine z_go 279 _ [.int (jn kk), .int (jn kk)] _ c_0_277 rfl ?_
        refine z_ieq 284 282 c_0_279 rfl Iff.rfl (fun _ => ?_) (fun h => absurd rfl h)
        refine z_go 286 _ [.int (jn kk)] _ c_0_284 rfl ?_
        refine z_ifne 301 289 c_0_286 rfl (jn_z (by omega)) (fun hk0 => ?_) (fun hk0 => ?_)
        · obtain ⟨f, hf1, hf2⟩ := hout hk0
          refine z_go 290 _ [.ref 119] _ c_0_289 rfl ?_
          refine z_go 291 _ [.int (jn 0), .ref 119] _ c_0_290 rfl ?_
          refine z_lald 292 c_0_291 rfl hf1 (by omega) (by omega) ?_
          show jZ _ _ _ _ ([.long (f 0)]) _ _
          refine z_go 294 _ [.int b, .long (f 0)] _ c_0_292 rfl ?_
          refine z_go 295 _ [.long b.toInt64, .long (f 0)] _ c_0_294 rfl ?_
          refine z_go 296 _ [.int (lg_cmp (f 0) b.toInt64)] _ c_0_295 rfl ?_
          rw [hf2, hvb hk0, cmp_same]
          refine z_ifeq 301 299 c_0_296 rfl Iff.rfl (fun _ => ?_) (fun h => absurd rfl h)
          refine z_go 547 _ [] _ c_0_301 rfl ?_
          refine z_iinc 550 [some (.ref 0), some (.ref 16), some (.ref 92), some (.ref 119), some (.int (jn (i + 4))), some (.int (jn kk)), some (.int b)] c_0_547 rfl rfl (jn_add _ _) rfl ?_
          refine z_go 23 _ [] _ c_0_550 rfl ?_
          exact ih (M := M2) (by omega) (by omega) hR2
        · refine z_go 547 _ [] _ c_0_301 rfl ?_
          refine z_iinc 550 [some (.ref 0), some (.ref 16), some (.ref 92), some (.ref 119), some (.int (jn (i + 4))), some (.int (jn kk)), some (.int b)] c_0_547 rfl rfl (jn_add _ _) rfl ?_
          refine z_go 23 _ [] _ c_0_550 rfl ?_
          exact ih (M := M2) (by omega) (by omega) hR2
      · refine z_table 304 c_0_39 (by decide) ?_
        refine z_go 305 _ [.ref 16] _ c_0_304 rfl ?_
        refine z_go 306 _ [.ref 0, .ref 16] _ c_0_305 rfl ?_
        refine z_go 308 _ [.int (jn i), .ref 0, .ref 16] _ c_0_306 rfl ?_
        refine z_go 309 _ [.int (jn 1), .int (jn i), .ref 0, .ref 16] _ c_0_308 rfl ?_
        refine z_go 310 _ [.int ((jn i) + (jn 1)), .ref 0, .ref 16] _ c_0_309 rfl ?_
        refine z_v (jn_add _ _) ?_
        refine z_iald 311 c_0_310 rfl h0 (Or.inr rfl) (by omega) (by omega) ?_
        show jZ _ _ _ _ ([.int (xs (i + 1)), .ref 16]) _ _
        obtain ⟨v, h2⟩ := S_found (d := d) hR (x := xs (i + 1))
        refine z_callvV 314 5 52 1 16 c_0_311 rfl ⟨Nat.le_of_ble_eq_true rfl, Nat.le_of_ble_eq_true rfl⟩ rfl h16 [.ref 16, .int (xs (i + 1))] rfl rfl [some (.ref 16), some (.int (xs (i + 1)))] rfl rfl (h2) ?_
        intro M1 ⟨h3, ⟨ty2, hc2, tf2, dn2, h161⟩, hz0, w2, ln2, at2, n2, gd2, h921⟩
        show jZ _ _ _ _ [.int v] _ _
        refine z_go 315 _ [.ref 92, .int v] _ c_0_314 rfl ?_
        refine z_go 316 _ [.ref 0, .ref 92, .int v] _ c_0_315 rfl ?_
        refine z_go 318 _ [.int (jn i), .ref 0, .ref 92, .int v] _ c_0_316 rfl ?_
        refine z_go 319 _ [.int (jn 1), .int (jn i), .ref 0, .ref 92, .int v] _ c_0_318 rfl ?_
        refine z_go 320 _ [.int ((jn i) + (jn 1)), .ref 0, .ref 92, .int v] _ c_0_319 rfl ?_
        refine z_v (jn_add _ _) ?_
        refine z_iald 321 c_0_320 rfl (hz0.trans h0) (Or.inr rfl) (by omega) (by omega) ?_
        show jZ _ _ _ _ ([.int (xs (i + 1)), .ref 92, .int v]) _ _
        refine z_callvV 324 6 103 1 92 c_0_321 rfl ⟨Nat.le_of_ble_eq_true rfl, Nat.le_of_ble_eq_true rfl⟩ rfl h921 [.ref 92, .int (xs (i + 1))] rfl rfl [some (.ref 92), some (.int (xs (i + 1)))] rfl rfl (h3) ?_
        intro M2 hR2
        show jZ _ _ _ _ [.int v, .int v] _ _
        refine z_ieq 547 327 c_0_324 rfl Iff.rfl (fun _ => ?_) (fun h => absurd rfl h)
        refine z_iinc 550 [some (.ref 0), some (.ref 16), some (.ref 92), some (.ref 119), some (.int (jn (i + 4))), z5, z6] c_0_547 rfl rfl (jn_add _ _) rfl ?_
        refine z_go 23 _ [] _ c_0_550 rfl ?_
        exact ih (M := M2) (by omega) (by omega) hR2
      · refine z_table 329 c_0_39 (by decide) ?_
        refine z_go 330 _ [.ref 16] _ c_0_329 rfl ?_
        refine z_go 331 _ [.ref 0, .ref 16] _ c_0_330 rfl ?_
        refine z_go 333 _ [.int (jn i), .ref 0, .ref 16] _ c_0_331 rfl ?_
        refine z_go 334 _ [.int (jn 1), .int (jn i), .ref 0, .ref 16] _ c_0_333 rfl ?_
        refine z_go 335 _ [.int ((jn i) + (jn 1)), .ref 0, .ref 16] _ c_0_334 rfl ?_
        refine z_v (jn_add _ _) ?_
        refine z_iald 336 c_0_335 rfl h0 (Or.inr rfl) (by omega) (by omega) ?_
        show jZ _ _ _ _ ([.int (xs (i + 1)), .ref 16]) _ _
        refine z_go 337 _ [.ref 119, .int (xs (i + 1)), .ref 16] _ c_0_336 rfl ?_
        obtain ⟨kk, v, b, hk6, hvb, h2⟩ := S_rem (d := d) hR (x := xs (i + 1))
        refine z_callV 340 120 3 c_0_337 rfl ⟨Nat.le_of_ble_eq_true rfl, Nat.le_of_ble_eq_true rfl⟩ [.ref 16, .int (xs (i + 1)), .ref 119] rfl rfl [some (.ref 16), some (.int (xs (i + 1))), some (.ref 119), none] rfl rfl (h2) ?_
        intro M1 ⟨⟨w2, ln2, at2, n2, gd2, h921⟩, hz0, h3⟩
        show jZ _ _ _ _ [.int (jn kk)] _ _
        refine z_go 342 [some (.ref 0), some (.ref 16), some (.ref 92), some (.ref 119), some (.int (jn i)), some (.int (jn kk)), z6] [] _ c_0_340 rfl ?_
        refine z_go 343 _ [.ref 92] _ c_0_342 rfl ?_
        refine z_go 344 _ [.ref 0, .ref 92] _ c_0_343 rfl ?_
        refine z_go 346 _ [.int (jn i), .ref 0, .ref 92] _ c_0_344 rfl ?_
        refine z_go 347 _ [.int (jn 1), .int (jn i), .ref 0, .ref 92] _ c_0_346 rfl ?_
        refine z_go 348 _ [.int ((jn i) + (jn 1)), .ref 0, .ref 92] _ c_0_347 rfl ?_
        refine z_v (jn_add _ _) ?_
        refine z_iald 349 c_0_348 rfl (hz0.trans h0) (Or.inr rfl) (by omega) (by omega) ?_
        show jZ _ _ _ _ ([.int (xs (i + 1)), .ref 92]) _ _
        refine z_callvV 352 6 104 1 92 c_0_349 rfl ⟨Nat.le_of_ble_eq_true rfl, Nat.le_of_ble_eq_true rfl⟩ rfl h921 [.ref 92, .int (xs (i + 1))] rfl rfl [some (.ref 92), some (.int (xs (i + 1)))] rfl rfl (h3) ?_
        intro M2 ⟨hR2, hout⟩
        obtain ⟨w3, ln3, at3, n3, gd3, h923⟩ := rT_92 hR2
        show jZ _ _ _ _ [.int b] _ _
        refine z_go 354 [some (.ref 0), some (.ref 16), some (.ref 92), some (.ref 119), some (.int (jn i)), some (.int (jn kk)), some (.int b)] [] _ c_0_352 rfl ?_
        refine z_go 355 _ [.ref 92] _ c_0_354 rfl ?_
        refine z_callv 358 6 70 0 92 c_0_355 rfl ⟨Nat.le_of_ble_eq_true rfl, Nat.le_of_ble_eq_true rfl⟩ rfl h923 [.ref 92] rfl rfl [some (.ref 92)] rfl rfl (rT_thr hR2) ?_
        show jZ _ _ _ _ [.int (jn kk)] _ _
        refine z_go 360 _ [.int (jn kk), .int (jn kk)] _ c_0_358 rfl ?_
        refine z_ieq 365 363 c_0_360 rfl Iff.rfl (fun _ => ?_) (fun h => absurd rfl h)
        refine z_go 367 _ [.int (jn kk)] _ c_0_365 rfl ?_
        refine z_ifne 382 370 c_0_367 rfl (jn_z (by omega)) (fun hk0 => ?_) (fun hk0 => ?_)
        · obtain ⟨f, hf1, hf2⟩ := hout hk0
          refine z_go 371 _ [.ref 119] _ c_0_370 rfl ?_
          refine z_go 372 _ [.int (jn 0), .ref 119] _ c_0_371 rfl ?_
          refine z_lald 373 c_0_372 rfl hf1 (by omega) (by omega) ?_
          show jZ _ _ _ _ ([.long (f 0)]) _ _
          refine z_go 375 _ [.int b, .long (f 0)] _ c_0_373 rfl ?_
          refine z_go 376 _ [.long b.toInt64, .long (f 0)] _ c_0_375 rfl ?_
          refine z_go 377 _ [.int (lg_cmp (f 0) b.toInt64)] _ c_0_376 rfl ?_
          rw [hf2, hvb hk0, cmp_same]
          refine z_ifeq 382 380 c_0_377 rfl Iff.rfl (fun _ => ?_) (fun h => absurd rfl h)
          refine z_go 547 _ [] _ c_0_382 rfl ?_
          refine z_iinc 550 [some (.ref 0), some (.ref 16), some (.ref 92), some (.ref 119), some (.int (jn (i + 4))), some (.int (jn kk)), some (.int b)] c_0_547 rfl rfl (jn_add _ _) rfl ?_
          refine z_go 23 _ [] _ c_0_550 rfl ?_
          exact ih (M := M2) (by omega) (by omega) hR2
        · refine z_go 547 _ [] _ c_0_382 rfl ?_
          refine z_iinc 550 [some (.ref 0), some (.ref 16), some (.ref 92), some (.ref 119), some (.int (jn (i + 4))), some (.int (jn kk)), some (.int b)] c_0_547 rfl rfl (jn_add _ _) rfl ?_
          refine z_go 23 _ [] _ c_0_550 rfl ?_
          exact ih (M := M2) (by omega) (by omega) hR2
      · refine z_table 385 c_0_39 (by decide) ?_
        refine z_go 386 _ [.ref 16] _ c_0_385 rfl ?_
        refine z_go 387 _ [.ref 0, .ref 16] _ c_0_386 rfl ?_
        refine z_go 389 _ [.int (jn i), .ref 0, .ref 16] _ c_0_387 rfl ?_
        refine z_go 390 _ [.int (jn 1), .int (jn i), .ref 0, .ref 16] _ c_0_389 rfl ?_
        refine z_go 391 _ [.int ((jn i) + (jn 1)), .ref 0, .ref 16] _ c_0_390 rfl ?_
        refine z_v (jn_add _ _) ?_
        refine z_iald 392 c_0_391 rfl h0 (Or.inr rfl) (by omega) (by omega) ?_
        show jZ _ _ _ _ ([.int (xs (i + 1)), .ref 16]) _ _
        obtain ⟨v, h2⟩ := S_fail (d := d) hR (x := xs (i + 1))
        refine z_callvV 395 5 53 1 16 c_0_392 rfl ⟨Nat.le_of_ble_eq_true rfl, Nat.le_of_ble_eq_true rfl⟩ rfl h16 [.ref 16, .int (xs (i + 1))] rfl rfl [some (.ref 16), some (.int (xs (i + 1)))] rfl rfl (h2) ?_
        intro M1 ⟨h3, ⟨ty2, hc2, tf2, dn2, h161⟩, hz0, w2, ln2, at2, n2, gd2, h921⟩
        show jZ _ _ _ _ [.int v] _ _
        refine z_go 396 _ [.ref 92, .int v] _ c_0_395 rfl ?_
        refine z_go 397 _ [.ref 0, .ref 92, .int v] _ c_0_396 rfl ?_
        refine z_go 399 _ [.int (jn i), .ref 0, .ref 92, .int v] _ c_0_397 rfl ?_
        refine z_go 400 _ [.int (jn 1), .int (jn i), .ref 0, .ref 92, .int v] _ c_0_399 rfl ?_
        refine z_go 401 _ [.int ((jn i) + (jn 1)), .ref 0, .ref 92, .int v] _ c_0_400 rfl ?_
        refine z_v (jn_add _ _) ?_
        refine z_iald 402 c_0_401 rfl (hz0.trans h0) (Or.inr rfl) (by omega) (by omega) ?_
        show jZ _ _ _ _ ([.int (xs (i + 1)), .ref 92, .int v]) _ _
        refine z_callvV 405 6 105 1 92 c_0_402 rfl ⟨Nat.le_of_ble_eq_true rfl, Nat.le_of_ble_eq_true rfl⟩ rfl h921 [.ref 92, .int (xs (i + 1))] rfl rfl [some (.ref 92), some (.int (xs (i + 1)))] rfl rfl (h3) ?_
        intro M2 hR2
        show jZ _ _ _ _ [.int v, .int v] _ _
        refine z_ieq 547 408 c_0_405 rfl Iff.rfl (fun _ => ?_) (fun h => absurd rfl h)
        refine z_iinc 550 [some (.ref 0), some (.ref 16), some (.ref 92), some (.ref 119), some (.int (jn (i + 4))), z5, z6] c_0_547 rfl rfl (jn_add _ _) rfl ?_
        refine z_go 23 _ [] _ c_0_550 rfl ?_
        exact ih (M := M2) (by omega) (by omega) hR2
      · refine z_table 410 c_0_39 (by decide) ?_
        refine z_go 411 _ [.ref 16] _ c_0_410 rfl ?_
        obtain ⟨v, h2⟩ := S_rec (d := d) hR
        refine z_callvV 414 5 54 0 16 c_0_411 rfl ⟨Nat.le_of_ble_eq_true rfl, Nat.le_of_ble_eq_true rfl⟩ rfl h16 [.ref 16] rfl rfl [some (.ref 16), none] rfl rfl (h2) ?_
        intro M1 ⟨h3, ⟨ty2, hc2, tf2, dn2, h161⟩, hz0, w2, ln2, at2, n2, gd2, h921⟩
        show jZ _ _ _ _ [.int v] _ _
        refine z_go 415 _ [.ref 92, .int v] _ c_0_414 rfl ?_
        refine z_callvV 418 6 106 0 92 c_0_415 rfl ⟨Nat.le_of_ble_eq_true rfl, Nat.le_of_ble_eq_true rfl⟩ rfl h921 [.ref 92] rfl rfl [some (.ref 92)] rfl rfl (h3) ?_
        intro M2 hR2
        show jZ _ _ _ _ [.int v, .int v] _ _
        refine z_ieq 547 421 c_0_418 rfl Iff.rfl (fun _ => ?_) (fun h => absurd rfl h)
        refine z_iinc 550 [some (.ref 0), some (.ref 16), some (.ref 92), some (.ref 119), some (.int (jn (i + 4))), z5, z6] c_0_547 rfl rfl (jn_add _ _) rfl ?_
        refine z_go 23 _ [] _ c_0_550 rfl ?_
        exact ih (M := M2) (by omega) (by omega) hR2
      · refine z_table 423 c_0_39 (by decide) ?_
        refine z_go 424 _ [.ref 16] _ c_0_423 rfl ?_
        obtain ⟨v, h2⟩ := S_count (d := d) hR
        refine z_callvV 427 5 56 0 16 c_0_424 rfl ⟨Nat.le_of_ble_eq_true rfl, Nat.le_of_ble_eq_true rfl⟩ rfl h16 [.ref 16] rfl rfl [some (.ref 16)] rfl rfl (h2) ?_
        intro M1 ⟨h3, ⟨ty2, hc2, tf2, dn2, h161⟩, hz0, w2, ln2, at2, n2, gd2, h921⟩
        show jZ _ _ _ _ [.int v] _ _
        refine z_go 428 _ [.ref 92, .int v] _ c_0_427 rfl ?_
        refine z_callvV 431 6 107 0 92 c_0_428 rfl ⟨Nat.le_of_ble_eq_true rfl, Nat.le_of_ble_eq_true rfl⟩ rfl h921 [.ref 92] rfl rfl [some (.ref 92)] rfl rfl (h3) ?_
        intro M2 hR2
        show jZ _ _ _ _ [.int v, .int v] _ _
        refine z_ieq 547 434 c_0_431 rfl Iff.rfl (fun _ => ?_) (fun h => absurd rfl h)
        refine z_iinc 550 [some (.ref 0), some (.ref 16), some (.ref 92), some (.ref 119), some (.int (jn (i + 4))), z5, z6] c_0_547 rfl rfl (jn_add _ _) rfl ?_
        refine z_go 23 _ [] _ c_0_550 rfl ?_
        exact ih (M := M2) (by omega) (by omega) hR2
      · refine z_table 436 c_0_39 (by decide) ?_
        refine z_go 437 _ [.ref 16] _ c_0_436 rfl ?_
        refine z_go 438 _ [.ref 0, .ref 16] _ c_0_437 rfl ?_
        refine z_go 440 _ [.int (jn i), .ref 0, .ref 16] _ c_0_438 rfl ?_
        refine z_go 441 _ [.int (jn 1), .int (jn i), .ref 0, .ref 16] _ c_0_440 rfl ?_
        refine z_go 442 _ [.int ((jn i) + (jn 1)), .ref 0, .ref 16] _ c_0_441 rfl ?_
        refine z_v (jn_add _ _) ?_
        refine z_iald 443 c_0_442 rfl h0 (Or.inr rfl) (by omega) (by omega) ?_
        show jZ _ _ _ _ ([.int (xs (i + 1)), .ref 16]) _ _
        obtain ⟨v, h2⟩ := S_atoms (d := d) hR (x := xs (i + 1))
        refine z_callvV 446 5 57 1 16 c_0_443 rfl ⟨Nat.le_of_ble_eq_true rfl, Nat.le_of_ble_eq_true rfl⟩ rfl h16 [.ref 16, .int (xs (i + 1))] rfl rfl [some (.ref 16), some (.int (xs (i + 1))), none] rfl rfl (h2) ?_
        intro M1 ⟨h3, ⟨ty2, hc2, tf2, dn2, h161⟩, hz0, w2, ln2, at2, n2, gd2, h921⟩
        show jZ _ _ _ _ [.int v] _ _
        refine z_go 447 _ [.ref 92, .int v] _ c_0_446 rfl ?_
        refine z_go 448 _ [.ref 0, .ref 92, .int v] _ c_0_447 rfl ?_
        refine z_go 450 _ [.int (jn i), .ref 0, .ref 92, .int v] _ c_0_448 rfl ?_
        refine z_go 451 _ [.int (jn 1), .int (jn i), .ref 0, .ref 92, .int v] _ c_0_450 rfl ?_
        refine z_go 452 _ [.int ((jn i) + (jn 1)), .ref 0, .ref 92, .int v] _ c_0_451 rfl ?_
        refine z_v (jn_add _ _) ?_
        refine z_iald 453 c_0_452 rfl (hz0.trans h0) (Or.inr rfl) (by omega) (by omega) ?_
        show jZ _ _ _ _ ([.int (xs (i + 1)), .ref 92, .int v]) _ _
        refine z_callvV 456 6 108 1 92 c_0_453 rfl ⟨Nat.le_of_ble_eq_true rfl, Nat.le_of_ble_eq_true rfl⟩ rfl h921 [.ref 92, .int (xs (i + 1))] rfl rfl [some (.ref 92), some (.int (xs (i + 1))), none] rfl rfl (h3) ?_
        intro M2 hR2
        show jZ _ _ _ _ [.int v, .int v] _ _
        refine z_ieq 547 459 c_0_456 rfl Iff.rfl (fun _ => ?_) (fun h => absurd rfl h)
        refine z_iinc 550 [some (.ref 0), some (.ref 16), some (.ref 92), some (.ref 119), some (.int (jn (i + 4))), z5, z6] c_0_547 rfl rfl (jn_add _ _) rfl ?_
        refine z_go 23 _ [] _ c_0_550 rfl ?_
        exact ih (M := M2) (by omega) (by omega) hR2
      · refine z_table 461 c_0_39 (by decide) ?_
        refine z_go 462 _ [.ref 16] _ c_0_461 rfl ?_
        refine z_go 463 _ [.ref 0, .ref 16] _ c_0_462 rfl ?_
        refine z_go 465 _ [.int (jn i), .ref 0, .ref 16] _ c_0_463 rfl ?_
        refine z_go 466 _ [.int (jn 1), .int (jn i), .ref 0, .ref 16] _ c_0_465 rfl ?_
        refine z_go 467 _ [.int ((jn i) + (jn 1)), .ref 0, .ref 16] _ c_0_466 rfl ?_
        refine z_v (jn_add _ _) ?_
        refine z_iald 468 c_0_467 rfl h0 (Or.inr rfl) (by omega) (by omega) ?_
        show jZ _ _ _ _ ([.int (xs (i + 1)), .ref 16]) _ _
        refine z_go 469 _ [.ref 0, .int (xs (i + 1)), .ref 16] _ c_0_468 rfl ?_
        refine z_go 471 _ [.int (jn i), .ref 0, .int (xs (i + 1)), .ref 16] _ c_0_469 rfl ?_
        refine z_go 472 _ [.int (jn 2), .int (jn i), .ref 0, .int (xs (i + 1)), .ref 16] _ c_0_471 rfl ?_
        refine z_go 473 _ [.int ((jn i) + (jn 2)), .ref 0, .int (xs (i + 1)), .ref 16] _ c_0_472 rfl ?_
        refine z_v (jn_add _ _) ?_
        refine z_iald 474 c_0_473 rfl h0 (Or.inr rfl) (by omega) (by omega) ?_
        show jZ _ _ _ _ ([.int (xs (i + 2)), .int (xs (i + 1)), .ref 16]) _ _
        obtain ⟨v, h2⟩ := S_atom (d := d) hR (x := xs (i + 1)) (y := xs (i + 2))
        refine z_callvV 477 5 59 2 16 c_0_474 rfl ⟨Nat.le_of_ble_eq_true rfl, Nat.le_of_ble_eq_true rfl⟩ rfl h16 [.ref 16, .int (xs (i + 1)), .int (xs (i + 2))] rfl rfl [some (.ref 16), some (.int (xs (i + 1))), some (.int (xs (i + 2))), none] rfl rfl (h2) ?_
        intro M1 ⟨h3, ⟨ty2, hc2, tf2, dn2, h161⟩, hz0, w2, ln2, at2, n2, gd2, h921⟩
        show jZ _ _ _ _ [.int v] _ _
        refine z_go 478 _ [.ref 92, .int v] _ c_0_477 rfl ?_
        refine z_go 479 _ [.ref 0, .ref 92, .int v] _ c_0_478 rfl ?_
        refine z_go 481 _ [.int (jn i), .ref 0, .ref 92, .int v] _ c_0_479 rfl ?_
        refine z_go 482 _ [.int (jn 1), .int (jn i), .ref 0, .ref 92, .int v] _ c_0_481 rfl ?_
        refine z_go 483 _ [.int ((jn i) + (jn 1)), .ref 0, .ref 92, .int v] _ c_0_482 rfl ?_
        refine z_v (jn_add _ _) ?_
        refine z_iald 484 c_0_483 rfl (hz0.trans h0) (Or.inr rfl) (by omega) (by omega) ?_
        show jZ _ _ _ _ ([.int (xs (i + 1)), .ref 92, .int v]) _ _
        refine z_go 485 _ [.ref 0, .int (xs (i + 1)), .ref 92, .int v] _ c_0_484 rfl ?_
        refine z_go 487 _ [.int (jn i), .ref 0, .int (xs (i + 1)), .ref 92, .int v] _ c_0_485 rfl ?_
        refine z_go 488 _ [.int (jn 2), .int (jn i), .ref 0, .int (xs (i + 1)), .ref 92, .int v] _ c_0_487 rfl ?_
        refine z_go 489 _ [.int ((jn i) + (jn 2)), .ref 0, .int (xs (i + 1)), .ref 92, .int v] _ c_0_488 rfl ?_
        refine z_v (jn_add _ _) ?_
        refine z_iald 490 c_0_489 rfl (hz0.trans h0) (Or.inr rfl) (by omega) (by omega) ?_
        show jZ _ _ _ _ ([.int (xs (i + 2)), .int (xs (i + 1)), .ref 92, .int v]) _ _
        refine z_callvV 493 6 109 2 92 c_0_490 rfl ⟨Nat.le_of_ble_eq_true rfl, Nat.le_of_ble_eq_true rfl⟩ rfl h921 [.ref 92, .int (xs (i + 1)), .int (xs (i + 2))] rfl rfl [some (.ref 92), some (.int (xs (i + 1))), some (.int (xs (i + 2))), none, none] rfl rfl (h3) ?_
        intro M2 hR2
        show jZ _ _ _ _ [.int v, .int v] _ _
        refine z_ieq 547 496 c_0_493 rfl Iff.rfl (fun _ => ?_) (fun h => absurd rfl h)
        refine z_iinc 550 [some (.ref 0), some (.ref 16), some (.ref 92), some (.ref 119), some (.int (jn (i + 4))), z5, z6] c_0_547 rfl rfl (jn_add _ _) rfl ?_
        refine z_go 23 _ [] _ c_0_550 rfl ?_
        exact ih (M := M2) (by omega) (by omega) hR2
      · refine z_table 498 c_0_39 (by decide) ?_
        refine z_go 499 _ [.ref 16] _ c_0_498 rfl ?_
        refine z_go 500 _ [.ref 0, .ref 16] _ c_0_499 rfl ?_
        refine z_go 502 _ [.int (jn i), .ref 0, .ref 16] _ c_0_500 rfl ?_
        refine z_go 503 _ [.int (jn 1), .int (jn i), .ref 0, .ref 16] _ c_0_502 rfl ?_
        refine z_go 504 _ [.int ((jn i) + (jn 1)), .ref 0, .ref 16] _ c_0_503 rfl ?_
        refine z_v (jn_add _ _) ?_
        refine z_iald 505 c_0_504 rfl h0 (Or.inr rfl) (by omega) (by omega) ?_
        show jZ _ _ _ _ ([.int (xs (i + 1)), .ref 16]) _ _
        refine z_go 506 _ [.ref 0, .int (xs (i + 1)), .ref 16] _ c_0_505 rfl ?_
        refine z_go 508 _ [.int (jn i), .ref 0, .int (xs (i + 1)), .ref 16] _ c_0_506 rfl ?_
        refine z_go 509 _ [.int (jn 2), .int (jn i), .ref 0, .int (xs (i + 1)), .ref 16] _ c_0_508 rfl ?_
        refine z_go 510 _ [.int ((jn i) + (jn 2)), .ref 0, .int (xs (i + 1)), .ref 16] _ c_0_509 rfl ?_
        refine z_v (jn_add _ _) ?_
        refine z_iald 511 c_0_510 rfl h0 (Or.inr rfl) (by omega) (by omega) ?_
        show jZ _ _ _ _ ([.int (xs (i + 2)), .int (xs (i + 1)), .ref 16]) _ _
        refine z_go 512 _ [.ref 0, .int (xs (i + 2)), .int (xs (i + 1)), .ref 16] _ c_0_511 rfl ?_
        refine z_go 514 _ [.int (jn i), .ref 0, .int (xs (i + 2)), .int (xs (i + 1)), .ref 16] _ c_0_512 rfl ?_
        refine z_go 515 _ [.int (jn 3), .int (jn i), .ref 0, .int (xs (i + 2)), .int (xs (i + 1)), .ref 16] _ c_0_514 rfl ?_
        refine z_go 516 _ [.int ((jn i) + (jn 3)), .ref 0, .int (xs (i + 2)), .int (xs (i + 1)), .ref 16] _ c_0_515 rfl ?_
        refine z_v (jn_add _ _) ?_
        refine z_iald 517 c_0_516 rfl h0 (Or.inr rfl) (by omega) (by omega) ?_
        show jZ _ _ _ _ ([.int (xs (i + 3)), .int (xs (i + 2)), .int (xs (i + 1)), .ref 16]) _ _
        obtain ⟨v, h2⟩ := S_bond (d := d) hR (x := xs (i + 1)) (y := xs (i + 2)) (z := xs (i + 3))
        refine z_callvV 520 5 60 3 16 c_0_517 rfl ⟨Nat.le_of_ble_eq_true rfl, Nat.le_of_ble_eq_true rfl⟩ rfl h16 [.ref 16, .int (xs (i + 1)), .int (xs (i + 2)), .int (xs (i + 3))] rfl rfl [some (.ref 16), some (.int (xs (i + 1))), some (.int (xs (i + 2))), some (.int (xs (i + 3))), none] rfl rfl (h2) ?_
        intro M1 ⟨h3, ⟨ty2, hc2, tf2, dn2, h161⟩, hz0, w2, ln2, at2, n2, gd2, h921⟩
        show jZ _ _ _ _ [.int v] _ _
        refine z_go 521 _ [.ref 92, .int v] _ c_0_520 rfl ?_
        refine z_go 522 _ [.ref 0, .ref 92, .int v] _ c_0_521 rfl ?_
        refine z_go 524 _ [.int (jn i), .ref 0, .ref 92, .int v] _ c_0_522 rfl ?_
        refine z_go 525 _ [.int (jn 1), .int (jn i), .ref 0, .ref 92, .int v] _ c_0_524 rfl ?_
        refine z_go 526 _ [.int ((jn i) + (jn 1)), .ref 0, .ref 92, .int v] _ c_0_525 rfl ?_
        refine z_v (jn_add _ _) ?_
        refine z_iald 527 c_0_526 rfl (hz0.trans h0) (Or.inr rfl) (by omega) (by omega) ?_
        show jZ _ _ _ _ ([.int (xs (i + 1)), .ref 92, .int v]) _ _
        refine z_go 528 _ [.ref 0, .int (xs (i + 1)), .ref 92, .int v] _ c_0_527 rfl ?_
        refine z_go 530 _ [.int (jn i), .ref 0, .int (xs (i + 1)), .ref 92, .int v] _ c_0_528 rfl ?_
        refine z_go 531 _ [.int (jn 2), .int (jn i), .ref 0, .int (xs (i + 1)), .ref 92, .int v] _ c_0_530 rfl ?_
        refine z_go 532 _ [.int ((jn i) + (jn 2)), .ref 0, .int (xs (i + 1)), .ref 92, .int v] _ c_0_531 rfl ?_
        refine z_v (jn_add _ _) ?_
        refine z_iald 533 c_0_532 rfl (hz0.trans h0) (Or.inr rfl) (by omega) (by omega) ?_
        show jZ _ _ _ _ ([.int (xs (i + 2)), .int (xs (i + 1)), .ref 92, .int v]) _ _
        refine z_go 534 _ [.ref 0, .int (xs (i + 2)), .int (xs (i + 1)), .ref 92, .int v] _ c_0_533 rfl ?_
        refine z_go 536 _ [.int (jn i), .ref 0, .int (xs (i + 2)), .int (xs (i + 1)), .ref 92, .int v] _ c_0_534 rfl ?_
        refine z_go 537 _ [.int (jn 3), .int (jn i), .ref 0, .int (xs (i + 2)), .int (xs (i + 1)), .ref 92, .int v] _ c_0_536 rfl ?_
        refine z_go 538 _ [.int ((jn i) + (jn 3)), .ref 0, .int (xs (i + 2)), .int (xs (i + 1)), .ref 92, .int v] _ c_0_537 rfl ?_
        refine z_v (jn_add _ _) ?_
        refine z_iald 539 c_0_538 rfl (hz0.trans h0) (Or.inr rfl) (by omega) (by omega) ?_
        show jZ _ _ _ _ ([.int (xs (i + 3)), .int (xs (i + 2)), .int (xs (i + 1)), .ref 92, .int v]) _ _
        refine z_callvV 542 6 110 3 92 c_0_539 rfl ⟨Nat.le_of_ble_eq_true rfl, Nat.le_of_ble_eq_true rfl⟩ rfl h921 [.ref 92, .int (xs (i + 1)), .int (xs (i + 2)), .int (xs (i + 3))] rfl rfl [some (.ref 92), some (.int (xs (i + 1))), some (.int (xs (i + 2))), some (.int (xs (i + 3))), none] rfl rfl (h3) ?_
        intro M2 hR2
        show jZ _ _ _ _ [.int v, .int v] _ _
        refine z_ieq 547 545 c_0_542 rfl Iff.rfl (fun _ => ?_) (fun h => absurd rfl h)
        refine z_iinc 550 [some (.ref 0), some (.ref 16), some (.ref 92), some (.ref 119), some (.int (jn (i + 4))), z5, z6] c_0_547 rfl rfl (jn_add _ _) rfl ?_
        refine z_go 23 _ [] _ c_0_550 rfl ?_
        exact ih (M := M2) (by omega) (by omega) hR2
      · refine z_table 547 c_0_39 ((by decide : ∀ k, k < 16 → 13 ≤ k → (if jn k < 0 then 547 else [104, 161, 172, 216, 260, 304, 329, 385, 410, 423, 436, 461, 498].getD (jn k).toNatClampNeg 547) = 547) k hk hk13) ?_
        refine z_iinc 550 [some (.ref 0), some (.ref 16), some (.ref 92), some (.ref 119), some (.int (jn (i + 4))), z5, z6] c_0_547 rfl rfl (jn_add _ _) rfl ?_
        refine z_go 23 _ [] _ c_0_550 rfl ?_
        exact ih (M := M) (by omega) (by omega) (rT_le hR)
end LP
