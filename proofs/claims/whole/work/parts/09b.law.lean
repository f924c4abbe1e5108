theorem dL_law__0 : decode cL_law_ 0 = .ok (.new 8, 3) := by decide +kernel
theorem dL_law__3 : decode cL_law_ 3 = .ok (.dup, 1) := by decide +kernel
theorem dL_law__4 : decode cL_law_ 4 = .ok (.invokespecial 18, 3) := by decide +kernel
theorem dL_law__7 : decode cL_law_ 7 = .ok (.astore_n 1, 1) := by decide +kernel
theorem dL_law__8 : decode cL_law_ 8 = .ok (.new 19, 3) := by decide +kernel
theorem dL_law__11 : decode cL_law_ 11 = .ok (.dup, 1) := by decide +kernel
theorem dL_law__12 : decode cL_law_ 12 = .ok (.invokespecial 21, 3) := by decide +kernel
theorem dL_law__15 : decode cL_law_ 15 = .ok (.astore_n 2, 1) := by decide +kernel
theorem dL_law__16 : decode cL_law_ 16 = .ok (.iconst 1, 1) := by decide +kernel
theorem dL_law__17 : decode cL_law_ 17 = .ok (.newarray .long, 2) := by decide +kernel
theorem dL_law__19 : decode cL_law_ 19 = .ok (.astore_n 3, 1) := by decide +kernel
theorem dL_law__20 : decode cL_law_ 20 = .ok (.iconst 0, 1) := by decide +kernel
theorem dL_law__21 : decode cL_law_ 21 = .ok (.istore 4, 2) := by decide +kernel
theorem dL_law__23 : decode cL_law_ 23 = .ok (.iload 4, 2) := by decide +kernel
theorem dL_law__25 : decode cL_law_ 25 = .ok (.aload_n 0, 1) := by decide +kernel
theorem dL_law__26 : decode cL_law_ 26 = .ok (.arraylength, 1) := by decide +kernel
theorem dL_law__27 : decode cL_law_ 27 = .ok (.bipush 6, 2) := by decide +kernel
theorem dL_law__29 : decode cL_law_ 29 = .ok (.isub, 1) := by decide +kernel
theorem dL_law__30 : decode cL_law_ 30 = .ok (.if_icmp .gt 1282, 3) := by decide +kernel
theorem dL_law__33 : decode cL_law_ 33 = .ok (.aload_n 0, 1) := by decide +kernel
theorem dL_law__34 : decode cL_law_ 34 = .ok (.iload 4, 2) := by decide +kernel
theorem dL_law__36 : decode cL_law_ 36 = .ok (.iaload, 1) := by decide +kernel
theorem dL_law__37 : decode cL_law_ 37 = .ok (.bipush 63, 2) := by decide +kernel
theorem dL_law__39 : decode cL_law_ 39 = .ok (.iand, 1) := by decide +kernel
theorem dL_law__40 : decode cL_law_ 40 = .ok (.tableswitch 1266 0 35 #[160, 233, 258, 271, 284, 352, 389, 426, 494, 531, 568, 593, 654, 691, 716, 729, 754, 779, 804, 841, 866, 891, 904, 929, 954, 967, 992, 1017, 1054, 1103, 1128, 1153, 1166, 1191, 1216, 1241], 160) := by decide +kernel
theorem dL_law__200 : decode cL_law_ 200 = .ok (.aload_n 1, 1) := by decide +kernel
theorem dL_law__201 : decode cL_law_ 201 = .ok (.aload_n 0, 1) := by decide +kernel
theorem dL_law__202 : decode cL_law_ 202 = .ok (.iload 4, 2) := by decide +kernel
theorem dL_law__204 : decode cL_law_ 204 = .ok (.iconst 1, 1) := by decide +kernel
theorem dL_law__205 : decode cL_law_ 205 = .ok (.iadd, 1) := by decide +kernel
theorem dL_law__206 : decode cL_law_ 206 = .ok (.iaload, 1) := by decide +kernel
theorem dL_law__207 : decode cL_law_ 207 = .ok (.aload_n 0, 1) := by decide +kernel
theorem dL_law__208 : decode cL_law_ 208 = .ok (.iload 4, 2) := by decide +kernel
theorem dL_law__210 : decode cL_law_ 210 = .ok (.iconst 2, 1) := by decide +kernel
theorem dL_law__211 : decode cL_law_ 211 = .ok (.iadd, 1) := by decide +kernel
theorem dL_law__212 : decode cL_law_ 212 = .ok (.iaload, 1) := by decide +kernel
theorem dL_law__213 : decode cL_law_ 213 = .ok (.aload_n 0, 1) := by decide +kernel
theorem dL_law__214 : decode cL_law_ 214 = .ok (.iload 4, 2) := by decide +kernel
theorem dL_law__216 : decode cL_law_ 216 = .ok (.iconst 3, 1) := by decide +kernel
theorem dL_law__217 : decode cL_law_ 217 = .ok (.iadd, 1) := by decide +kernel
theorem dL_law__218 : decode cL_law_ 218 = .ok (.iaload, 1) := by decide +kernel
theorem dL_law__219 : decode cL_law_ 219 = .ok (.aload_n 0, 1) := by decide +kernel
theorem dL_law__220 : decode cL_law_ 220 = .ok (.iload 4, 2) := by decide +kernel
theorem dL_law__222 : decode cL_law_ 222 = .ok (.iconst 4, 1) := by decide +kernel
theorem dL_law__223 : decode cL_law_ 223 = .ok (.iadd, 1) := by decide +kernel
theorem dL_law__224 : decode cL_law_ 224 = .ok (.iaload, 1) := by decide +kernel
theorem dL_law__225 : decode cL_law_ 225 = .ok (.aload_n 0, 1) := by decide +kernel
theorem dL_law__226 : decode cL_law_ 226 = .ok (.iload 4, 2) := by decide +kernel
theorem dL_law__228 : decode cL_law_ 228 = .ok (.iconst 5, 1) := by decide +kernel
theorem dL_law__229 : decode cL_law_ 229 = .ok (.iadd, 1) := by decide +kernel
theorem dL_law__230 : decode cL_law_ 230 = .ok (.iaload, 1) := by decide +kernel
theorem dL_law__231 : decode cL_law_ 231 = .ok (.invokevirtual 22, 3) := by decide +kernel
theorem dL_law__234 : decode cL_law_ 234 = .ok (.aload_n 2, 1) := by decide +kernel
theorem dL_law__235 : decode cL_law_ 235 = .ok (.aload_n 0, 1) := by decide +kernel
theorem dL_law__236 : decode cL_law_ 236 = .ok (.iload 4, 2) := by decide +kernel
theorem dL_law__238 : decode cL_law_ 238 = .ok (.iconst 1, 1) := by decide +kernel
theorem dL_law__239 : decode cL_law_ 239 = .ok (.iadd, 1) := by decide +kernel
theorem dL_law__240 : decode cL_law_ 240 = .ok (.iaload, 1) := by decide +kernel
theorem dL_law__241 : decode cL_law_ 241 = .ok (.aload_n 0, 1) := by decide +kernel
theorem dL_law__242 : decode cL_law_ 242 = .ok (.iload 4, 2) := by decide +kernel
theorem dL_law__244 : decode cL_law_ 244 = .ok (.iconst 2, 1) := by decide +kernel
theorem dL_law__245 : decode cL_law_ 245 = .ok (.iadd, 1) := by decide +kernel
theorem dL_law__246 : decode cL_law_ 246 = .ok (.iaload, 1) := by decide +kernel
theorem dL_law__247 : decode cL_law_ 247 = .ok (.aload_n 0, 1) := by decide +kernel
theorem dL_law__248 : decode cL_law_ 248 = .ok (.iload 4, 2) := by decide +kernel
theorem dL_law__250 : decode cL_law_ 250 = .ok (.iconst 3, 1) := by decide +kernel
theorem dL_law__251 : decode cL_law_ 251 = .ok (.iadd, 1) := by decide +kernel
theorem dL_law__252 : decode cL_law_ 252 = .ok (.iaload, 1) := by decide +kernel
theorem dL_law__253 : decode cL_law_ 253 = .ok (.aload_n 0, 1) := by decide +kernel
theorem dL_law__254 : decode cL_law_ 254 = .ok (.iload 4, 2) := by decide +kernel
theorem dL_law__256 : decode cL_law_ 256 = .ok (.iconst 4, 1) := by decide +kernel
theorem dL_law__257 : decode cL_law_ 257 = .ok (.iadd, 1) := by decide +kernel
theorem dL_law__258 : decode cL_law_ 258 = .ok (.iaload, 1) := by decide +kernel
theorem dL_law__259 : decode cL_law_ 259 = .ok (.aload_n 0, 1) := by decide +kernel
theorem dL_law__260 : decode cL_law_ 260 = .ok (.iload 4, 2) := by decide +kernel
theorem dL_law__262 : decode cL_law_ 262 = .ok (.iconst 5, 1) := by decide +kernel
theorem dL_law__263 : decode cL_law_ 263 = .ok (.iadd, 1) := by decide +kernel
theorem dL_law__264 : decode cL_law_ 264 = .ok (.iaload, 1) := by decide +kernel
theorem dL_law__265 : decode cL_law_ 265 = .ok (.invokevirtual 26, 3) := by decide +kernel
theorem dL_law__268 : decode cL_law_ 268 = .ok (.if_icmp .eq 1038, 3) := by decide +kernel
theorem dL_law__271 : decode cL_law_ 271 = .ok (.iconst 0, 1) := by decide +kernel
theorem dL_law__272 : decode cL_law_ 272 = .ok (.ireturn, 1) := by decide +kernel
theorem dL_law__273 : decode cL_law_ 273 = .ok (.aload_n 1, 1) := by decide +kernel
theorem dL_law__274 : decode cL_law_ 274 = .ok (.aload_n 0, 1) := by decide +kernel
theorem dL_law__275 : decode cL_law_ 275 = .ok (.iload 4, 2) := by decide +kernel
theorem dL_law__277 : decode cL_law_ 277 = .ok (.iconst 1, 1) := by decide +kernel
theorem dL_law__278 : decode cL_law_ 278 = .ok (.iadd, 1) := by decide +kernel
theorem dL_law__279 : decode cL_law_ 279 = .ok (.iaload, 1) := by decide +kernel
theorem dL_law__280 : decode cL_law_ 280 = .ok (.invokevirtual 27, 3) := by decide +kernel
theorem dL_law__283 : decode cL_law_ 283 = .ok (.aload_n 2, 1) := by decide +kernel
theorem dL_law__284 : decode cL_law_ 284 = .ok (.aload_n 0, 1) := by decide +kernel
theorem dL_law__285 : decode cL_law_ 285 = .ok (.iload 4, 2) := by decide +kernel
theorem dL_law__287 : decode cL_law_ 287 = .ok (.iconst 1, 1) := by decide +kernel
theorem dL_law__288 : decode cL_law_ 288 = .ok (.iadd, 1) := by decide +kernel
theorem dL_law__289 : decode cL_law_ 289 = .ok (.iaload, 1) := by decide +kernel
theorem dL_law__290 : decode cL_law_ 290 = .ok (.invokevirtual 31, 3) := by decide +kernel
theorem dL_law__293 : decode cL_law_ 293 = .ok (.if_icmp .eq 1013, 3) := by decide +kernel
theorem dL_law__296 : decode cL_law_ 296 = .ok (.iconst 0, 1) := by decide +kernel
theorem dL_law__297 : decode cL_law_ 297 = .ok (.ireturn, 1) := by decide +kernel
theorem dL_law__298 : decode cL_law_ 298 = .ok (.aload_n 1, 1) := by decide +kernel
theorem dL_law__299 : decode cL_law_ 299 = .ok (.invokevirtual 32, 3) := by decide +kernel
theorem dL_law__302 : decode cL_law_ 302 = .ok (.aload_n 2, 1) := by decide +kernel
theorem dL_law__303 : decode cL_law_ 303 = .ok (.invokevirtual 36, 3) := by decide +kernel
theorem dL_law__306 : decode cL_law_ 306 = .ok (.if_icmp .eq 1000, 3) := by decide +kernel
theorem dL_law__309 : decode cL_law_ 309 = .ok (.iconst 0, 1) := by decide +kernel
theorem dL_law__310 : decode cL_law_ 310 = .ok (.ireturn, 1) := by decide +kernel
theorem dL_law__311 : decode cL_law_ 311 = .ok (.aload_n 1, 1) := by decide +kernel
theorem dL_law__312 : decode cL_law_ 312 = .ok (.invokevirtual 37, 3) := by decide +kernel
theorem dL_law__315 : decode cL_law_ 315 = .ok (.aload_n 2, 1) := by decide +kernel
theorem dL_law__316 : decode cL_law_ 316 = .ok (.invokevirtual 40, 3) := by decide +kernel
theorem dL_law__319 : decode cL_law_ 319 = .ok (.if_icmp .eq 987, 3) := by decide +kernel
theorem dL_law__322 : decode cL_law_ 322 = .ok (.iconst 0, 1) := by decide +kernel
theorem dL_law__323 : decode cL_law_ 323 = .ok (.ireturn, 1) := by decide +kernel
theorem dL_law__324 : decode cL_law_ 324 = .ok (.aload_n 1, 1) := by decide +kernel
theorem dL_law__325 : decode cL_law_ 325 = .ok (.aload_n 0, 1) := by decide +kernel
theorem dL_law__326 : decode cL_law_ 326 = .ok (.iload 4, 2) := by decide +kernel
theorem dL_law__328 : decode cL_law_ 328 = .ok (.iconst 1, 1) := by decide +kernel
theorem dL_law__329 : decode cL_law_ 329 = .ok (.iadd, 1) := by decide +kernel
theorem dL_law__330 : decode cL_law_ 330 = .ok (.iaload, 1) := by decide +kernel
theorem dL_law__331 : decode cL_law_ 331 = .ok (.aload_n 0, 1) := by decide +kernel
theorem dL_law__332 : decode cL_law_ 332 = .ok (.iload 4, 2) := by decide +kernel
theorem dL_law__334 : decode cL_law_ 334 = .ok (.iconst 2, 1) := by decide +kernel
theorem dL_law__335 : decode cL_law_ 335 = .ok (.iadd, 1) := by decide +kernel
theorem dL_law__336 : decode cL_law_ 336 = .ok (.iaload, 1) := by decide +kernel
theorem dL_law__337 : decode cL_law_ 337 = .ok (.aload_n 3, 1) := by decide +kernel
theorem dL_law__338 : decode cL_law_ 338 = .ok (.invokestatic 41, 3) := by decide +kernel
theorem dL_law__341 : decode cL_law_ 341 = .ok (.istore 5, 2) := by decide +kernel
theorem dL_law__343 : decode cL_law_ 343 = .ok (.aload_n 2, 1) := by decide +kernel
theorem dL_law__344 : decode cL_law_ 344 = .ok (.aload_n 0, 1) := by decide +kernel
theorem dL_law__345 : decode cL_law_ 345 = .ok (.iload 4, 2) := by decide +kernel
theorem dL_law__347 : decode cL_law_ 347 = .ok (.iconst 1, 1) := by decide +kernel
theorem dL_law__348 : decode cL_law_ 348 = .ok (.iadd, 1) := by decide +kernel
theorem dL_law__349 : decode cL_law_ 349 = .ok (.iaload, 1) := by decide +kernel
theorem dL_law__350 : decode cL_law_ 350 = .ok (.aload_n 0, 1) := by decide +kernel
theorem dL_law__351 : decode cL_law_ 351 = .ok (.iload 4, 2) := by decide +kernel
theorem dL_law__353 : decode cL_law_ 353 = .ok (.iconst 2, 1) := by decide +kernel
theorem dL_law__354 : decode cL_law_ 354 = .ok (.iadd, 1) := by decide +kernel
theorem dL_law__355 : decode cL_law_ 355 = .ok (.iaload, 1) := by decide +kernel
theorem dL_law__356 : decode cL_law_ 356 = .ok (.invokevirtual 46, 3) := by decide +kernel
theorem dL_law__359 : decode cL_law_ 359 = .ok (.istore 6, 2) := by decide +kernel
theorem dL_law__361 : decode cL_law_ 361 = .ok (.aload_n 2, 1) := by decide +kernel
theorem dL_law__362 : decode cL_law_ 362 = .ok (.invokevirtual 47, 3) := by decide +kernel
theorem dL_law__365 : decode cL_law_ 365 = .ok (.iload 5, 2) := by decide +kernel
theorem dL_law__367 : decode cL_law_ 367 = .ok (.if_icmp .eq 5, 3) := by decide +kernel
theorem dL_law__370 : decode cL_law_ 370 = .ok (.iconst 0, 1) := by decide +kernel
theorem dL_law__371 : decode cL_law_ 371 = .ok (.ireturn, 1) := by decide +kernel
theorem dL_law__372 : decode cL_law_ 372 = .ok (.iload 5, 2) := by decide +kernel
theorem dL_law__374 : decode cL_law_ 374 = .ok (.ifCond .ne 15, 3) := by decide +kernel
theorem dL_law__377 : decode cL_law_ 377 = .ok (.aload_n 3, 1) := by decide +kernel
theorem dL_law__378 : decode cL_law_ 378 = .ok (.iconst 0, 1) := by decide +kernel
theorem dL_law__379 : decode cL_law_ 379 = .ok (.laload, 1) := by decide +kernel
theorem dL_law__380 : decode cL_law_ 380 = .ok (.iload 6, 2) := by decide +kernel
theorem dL_law__382 : decode cL_law_ 382 = .ok (.i2l, 1) := by decide +kernel
theorem dL_law__383 : decode cL_law_ 383 = .ok (.lcmp, 1) := by decide +kernel
theorem dL_law__384 : decode cL_law_ 384 = .ok (.ifCond .eq 5, 3) := by decide +kernel
theorem dL_law__387 : decode cL_law_ 387 = .ok (.iconst 0, 1) := by decide +kernel
theorem dL_law__388 : decode cL_law_ 388 = .ok (.ireturn, 1) := by decide +kernel
theorem dL_law__389 : decode cL_law_ 389 = .ok (.goto 917, 3) := by decide +kernel
theorem dL_law__392 : decode cL_law_ 392 = .ok (.aload_n 1, 1) := by decide +kernel
theorem dL_law__393 : decode cL_law_ 393 = .ok (.aload_n 0, 1) := by decide +kernel
theorem dL_law__394 : decode cL_law_ 394 = .ok (.iload 4, 2) := by decide +kernel
theorem dL_law__396 : decode cL_law_ 396 = .ok (.iconst 1, 1) := by decide +kernel
theorem dL_law__397 : decode cL_law_ 397 = .ok (.iadd, 1) := by decide +kernel
theorem dL_law__398 : decode cL_law_ 398 = .ok (.iaload, 1) := by decide +kernel
theorem dL_law__399 : decode cL_law_ 399 = .ok (.aload_n 0, 1) := by decide +kernel
theorem dL_law__400 : decode cL_law_ 400 = .ok (.iload 4, 2) := by decide +kernel
theorem dL_law__402 : decode cL_law_ 402 = .ok (.iconst 2, 1) := by decide +kernel
theorem dL_law__403 : decode cL_law_ 403 = .ok (.iadd, 1) := by decide +kernel
theorem dL_law__404 : decode cL_law_ 404 = .ok (.iaload, 1) := by decide +kernel
theorem dL_law__405 : decode cL_law_ 405 = .ok (.invokevirtual 50, 3) := by decide +kernel
theorem dL_law__408 : decode cL_law_ 408 = .ok (.aload_n 2, 1) := by decide +kernel
theorem dL_law__409 : decode cL_law_ 409 = .ok (.aload_n 0, 1) := by decide +kernel
theorem dL_law__410 : decode cL_law_ 410 = .ok (.iload 4, 2) := by decide +kernel
theorem dL_law__412 : decode cL_law_ 412 = .ok (.iconst 1, 1) := by decide +kernel
theorem dL_law__413 : decode cL_law_ 413 = .ok (.iadd, 1) := by decide +kernel
theorem dL_law__414 : decode cL_law_ 414 = .ok (.iaload, 1) := by decide +kernel
theorem dL_law__415 : decode cL_law_ 415 = .ok (.aload_n 0, 1) := by decide +kernel
theorem dL_law__416 : decode cL_law_ 416 = .ok (.iload 4, 2) := by decide +kernel
theorem dL_law__418 : decode cL_law_ 418 = .ok (.iconst 2, 1) := by decide +kernel
theorem dL_law__419 : decode cL_law_ 419 = .ok (.iadd, 1) := by decide +kernel
theorem dL_law__420 : decode cL_law_ 420 = .ok (.iaload, 1) := by decide +kernel
theorem dL_law__421 : decode cL_law_ 421 = .ok (.invokevirtual 53, 3) := by decide +kernel
theorem dL_law__424 : decode cL_law_ 424 = .ok (.if_icmp .eq 882, 3) := by decide +kernel
theorem dL_law__427 : decode cL_law_ 427 = .ok (.iconst 0, 1) := by decide +kernel
theorem dL_law__428 : decode cL_law_ 428 = .ok (.ireturn, 1) := by decide +kernel
theorem dL_law__429 : decode cL_law_ 429 = .ok (.aload_n 1, 1) := by decide +kernel
theorem dL_law__430 : decode cL_law_ 430 = .ok (.aload_n 0, 1) := by decide +kernel
theorem dL_law__431 : decode cL_law_ 431 = .ok (.iload 4, 2) := by decide +kernel
theorem dL_law__433 : decode cL_law_ 433 = .ok (.iconst 1, 1) := by decide +kernel
theorem dL_law__434 : decode cL_law_ 434 = .ok (.iadd, 1) := by decide +kernel
theorem dL_law__435 : decode cL_law_ 435 = .ok (.iaload, 1) := by decide +kernel
theorem dL_law__436 : decode cL_law_ 436 = .ok (.aload_n 0, 1) := by decide +kernel
theorem dL_law__437 : decode cL_law_ 437 = .ok (.iload 4, 2) := by decide +kernel
theorem dL_law__439 : decode cL_law_ 439 = .ok (.iconst 2, 1) := by decide +kernel
theorem dL_law__440 : decode cL_law_ 440 = .ok (.iadd, 1) := by decide +kernel
theorem dL_law__441 : decode cL_law_ 441 = .ok (.iaload, 1) := by decide +kernel
theorem dL_law__442 : decode cL_law_ 442 = .ok (.invokevirtual 54, 3) := by decide +kernel
theorem dL_law__445 : decode cL_law_ 445 = .ok (.aload_n 2, 1) := by decide +kernel
theorem dL_law__446 : decode cL_law_ 446 = .ok (.aload_n 0, 1) := by decide +kernel
theorem dL_law__447 : decode cL_law_ 447 = .ok (.iload 4, 2) := by decide +kernel
theorem dL_law__449 : decode cL_law_ 449 = .ok (.iconst 1, 1) := by decide +kernel
theorem dL_law__450 : decode cL_law_ 450 = .ok (.iadd, 1) := by decide +kernel
theorem dL_law__451 : decode cL_law_ 451 = .ok (.iaload, 1) := by decide +kernel
theorem dL_law__452 : decode cL_law_ 452 = .ok (.aload_n 0, 1) := by decide +kernel
theorem dL_law__453 : decode cL_law_ 453 = .ok (.iload 4, 2) := by decide +kernel
theorem dL_law__455 : decode cL_law_ 455 = .ok (.iconst 2, 1) := by decide +kernel
theorem dL_law__456 : decode cL_law_ 456 = .ok (.iadd, 1) := by decide +kernel
theorem dL_law__457 : decode cL_law_ 457 = .ok (.iaload, 1) := by decide +kernel
theorem dL_law__458 : decode cL_law_ 458 = .ok (.invokevirtual 57, 3) := by decide +kernel
theorem dL_law__461 : decode cL_law_ 461 = .ok (.if_icmp .eq 845, 3) := by decide +kernel
theorem dL_law__464 : decode cL_law_ 464 = .ok (.iconst 0, 1) := by decide +kernel
theorem dL_law__465 : decode cL_law_ 465 = .ok (.ireturn, 1) := by decide +kernel
theorem dL_law__466 : decode cL_law_ 466 = .ok (.aload_n 1, 1) := by decide +kernel
theorem dL_law__467 : decode cL_law_ 467 = .ok (.aload_n 0, 1) := by decide +kernel
theorem dL_law__468 : decode cL_law_ 468 = .ok (.iload 4, 2) := by decide +kernel
theorem dL_law__470 : decode cL_law_ 470 = .ok (.iconst 1, 1) := by decide +kernel
theorem dL_law__471 : decode cL_law_ 471 = .ok (.iadd, 1) := by decide +kernel
theorem dL_law__472 : decode cL_law_ 472 = .ok (.iaload, 1) := by decide +kernel
theorem dL_law__473 : decode cL_law_ 473 = .ok (.aload_n 0, 1) := by decide +kernel
theorem dL_law__474 : decode cL_law_ 474 = .ok (.iload 4, 2) := by decide +kernel
theorem dL_law__476 : decode cL_law_ 476 = .ok (.iconst 2, 1) := by decide +kernel
theorem dL_law__477 : decode cL_law_ 477 = .ok (.iadd, 1) := by decide +kernel
theorem dL_law__478 : decode cL_law_ 478 = .ok (.iaload, 1) := by decide +kernel
theorem dL_law__479 : decode cL_law_ 479 = .ok (.aload_n 3, 1) := by decide +kernel
theorem dL_law__480 : decode cL_law_ 480 = .ok (.invokestatic 58, 3) := by decide +kernel
theorem dL_law__483 : decode cL_law_ 483 = .ok (.istore 5, 2) := by decide +kernel
theorem dL_law__485 : decode cL_law_ 485 = .ok (.aload_n 2, 1) := by decide +kernel
theorem dL_law__486 : decode cL_law_ 486 = .ok (.aload_n 0, 1) := by decide +kernel
theorem dL_law__487 : decode cL_law_ 487 = .ok (.iload 4, 2) := by decide +kernel
theorem dL_law__489 : decode cL_law_ 489 = .ok (.iconst 1, 1) := by decide +kernel
theorem dL_law__490 : decode cL_law_ 490 = .ok (.iadd, 1) := by decide +kernel
theorem dL_law__491 : decode cL_law_ 491 = .ok (.iaload, 1) := by decide +kernel
theorem dL_law__492 : decode cL_law_ 492 = .ok (.aload_n 0, 1) := by decide +kernel
theorem dL_law__493 : decode cL_law_ 493 = .ok (.iload 4, 2) := by decide +kernel
theorem dL_law__495 : decode cL_law_ 495 = .ok (.iconst 2, 1) := by decide +kernel
theorem dL_law__496 : decode cL_law_ 496 = .ok (.iadd, 1) := by decide +kernel
theorem dL_law__497 : decode cL_law_ 497 = .ok (.iaload, 1) := by decide +kernel
theorem dL_law__498 : decode cL_law_ 498 = .ok (.invokevirtual 60, 3) := by decide +kernel
theorem dL_law__501 : decode cL_law_ 501 = .ok (.istore 6, 2) := by decide +kernel
theorem dL_law__503 : decode cL_law_ 503 = .ok (.aload_n 2, 1) := by decide +kernel
theorem dL_law__504 : decode cL_law_ 504 = .ok (.invokevirtual 47, 3) := by decide +kernel
theorem dL_law__507 : decode cL_law_ 507 = .ok (.iload 5, 2) := by decide +kernel
theorem dL_law__509 : decode cL_law_ 509 = .ok (.if_icmp .eq 5, 3) := by decide +kernel
theorem dL_law__512 : decode cL_law_ 512 = .ok (.iconst 0, 1) := by decide +kernel
theorem dL_law__513 : decode cL_law_ 513 = .ok (.ireturn, 1) := by decide +kernel
theorem dL_law__514 : decode cL_law_ 514 = .ok (.iload 5, 2) := by decide +kernel
theorem dL_law__516 : decode cL_law_ 516 = .ok (.ifCond .ne 15, 3) := by decide +kernel
theorem dL_law__519 : decode cL_law_ 519 = .ok (.aload_n 3, 1) := by decide +kernel
theorem dL_law__520 : decode cL_law_ 520 = .ok (.iconst 0, 1) := by decide +kernel
theorem dL_law__521 : decode cL_law_ 521 = .ok (.laload, 1) := by decide +kernel
theorem dL_law__522 : decode cL_law_ 522 = .ok (.iload 6, 2) := by decide +kernel
theorem dL_law__524 : decode cL_law_ 524 = .ok (.i2l, 1) := by decide +kernel
theorem dL_law__525 : decode cL_law_ 525 = .ok (.lcmp, 1) := by decide +kernel
theorem dL_law__526 : decode cL_law_ 526 = .ok (.ifCond .eq 5, 3) := by decide +kernel
theorem dL_law__529 : decode cL_law_ 529 = .ok (.iconst 0, 1) := by decide +kernel
theorem dL_law__530 : decode cL_law_ 530 = .ok (.ireturn, 1) := by decide +kernel
theorem dL_law__531 : decode cL_law_ 531 = .ok (.goto 775, 3) := by decide +kernel
theorem dL_law__534 : decode cL_law_ 534 = .ok (.aload_n 1, 1) := by decide +kernel
theorem dL_law__535 : decode cL_law_ 535 = .ok (.aload_n 0, 1) := by decide +kernel
theorem dL_law__536 : decode cL_law_ 536 = .ok (.iload 4, 2) := by decide +kernel
theorem dL_law__538 : decode cL_law_ 538 = .ok (.iconst 1, 1) := by decide +kernel
theorem dL_law__539 : decode cL_law_ 539 = .ok (.iadd, 1) := by decide +kernel
theorem dL_law__540 : decode cL_law_ 540 = .ok (.iaload, 1) := by decide +kernel
theorem dL_law__541 : decode cL_law_ 541 = .ok (.aload_n 0, 1) := by decide +kernel
theorem dL_law__542 : decode cL_law_ 542 = .ok (.iload 4, 2) := by decide +kernel
theorem dL_law__544 : decode cL_law_ 544 = .ok (.iconst 2, 1) := by decide +kernel
theorem dL_law__545 : decode cL_law_ 545 = .ok (.iadd, 1) := by decide +kernel
theorem dL_law__546 : decode cL_law_ 546 = .ok (.iaload, 1) := by decide +kernel
theorem dL_law__547 : decode cL_law_ 547 = .ok (.invokevirtual 61, 3) := by decide +kernel
theorem dL_law__550 : decode cL_law_ 550 = .ok (.aload_n 2, 1) := by decide +kernel
theorem dL_law__551 : decode cL_law_ 551 = .ok (.aload_n 0, 1) := by decide +kernel
theorem dL_law__552 : decode cL_law_ 552 = .ok (.iload 4, 2) := by decide +kernel
theorem dL_law__554 : decode cL_law_ 554 = .ok (.iconst 1, 1) := by decide +kernel
theorem dL_law__555 : decode cL_law_ 555 = .ok (.iadd, 1) := by decide +kernel
theorem dL_law__556 : decode cL_law_ 556 = .ok (.iaload, 1) := by decide +kernel
theorem dL_law__557 : decode cL_law_ 557 = .ok (.aload_n 0, 1) := by decide +kernel
theorem dL_law__558 : decode cL_law_ 558 = .ok (.iload 4, 2) := by decide +kernel
theorem dL_law__560 : decode cL_law_ 560 = .ok (.iconst 2, 1) := by decide +kernel
theorem dL_law__561 : decode cL_law_ 561 = .ok (.iadd, 1) := by decide +kernel
theorem dL_law__562 : decode cL_law_ 562 = .ok (.iaload, 1) := by decide +kernel
theorem dL_law__563 : decode cL_law_ 563 = .ok (.invokevirtual 64, 3) := by decide +kernel
theorem dL_law__566 : decode cL_law_ 566 = .ok (.if_icmp .eq 740, 3) := by decide +kernel
theorem dL_law__569 : decode cL_law_ 569 = .ok (.iconst 0, 1) := by decide +kernel
theorem dL_law__570 : decode cL_law_ 570 = .ok (.ireturn, 1) := by decide +kernel
theorem dL_law__571 : decode cL_law_ 571 = .ok (.aload_n 1, 1) := by decide +kernel
theorem dL_law__572 : decode cL_law_ 572 = .ok (.aload_n 0, 1) := by decide +kernel
theorem dL_law__573 : decode cL_law_ 573 = .ok (.iload 4, 2) := by decide +kernel
theorem dL_law__575 : decode cL_law_ 575 = .ok (.iconst 1, 1) := by decide +kernel
theorem dL_law__576 : decode cL_law_ 576 = .ok (.iadd, 1) := by decide +kernel
theorem dL_law__577 : decode cL_law_ 577 = .ok (.iaload, 1) := by decide +kernel
theorem dL_law__578 : decode cL_law_ 578 = .ok (.aload_n 0, 1) := by decide +kernel
theorem dL_law__579 : decode cL_law_ 579 = .ok (.iload 4, 2) := by decide +kernel
theorem dL_law__581 : decode cL_law_ 581 = .ok (.iconst 2, 1) := by decide +kernel
theorem dL_law__582 : decode cL_law_ 582 = .ok (.iadd, 1) := by decide +kernel
theorem dL_law__583 : decode cL_law_ 583 = .ok (.iaload, 1) := by decide +kernel
theorem dL_law__584 : decode cL_law_ 584 = .ok (.invokevirtual 65, 3) := by decide +kernel
theorem dL_law__587 : decode cL_law_ 587 = .ok (.aload_n 2, 1) := by decide +kernel
theorem dL_law__588 : decode cL_law_ 588 = .ok (.aload_n 0, 1) := by decide +kernel
theorem dL_law__589 : decode cL_law_ 589 = .ok (.iload 4, 2) := by decide +kernel
theorem dL_law__591 : decode cL_law_ 591 = .ok (.iconst 1, 1) := by decide +kernel
theorem dL_law__592 : decode cL_law_ 592 = .ok (.iadd, 1) := by decide +kernel
theorem dL_law__593 : decode cL_law_ 593 = .ok (.iaload, 1) := by decide +kernel
theorem dL_law__594 : decode cL_law_ 594 = .ok (.aload_n 0, 1) := by decide +kernel
theorem dL_law__595 : decode cL_law_ 595 = .ok (.iload 4, 2) := by decide +kernel
theorem dL_law__597 : decode cL_law_ 597 = .ok (.iconst 2, 1) := by decide +kernel
theorem dL_law__598 : decode cL_law_ 598 = .ok (.iadd, 1) := by decide +kernel
theorem dL_law__599 : decode cL_law_ 599 = .ok (.iaload, 1) := by decide +kernel
theorem dL_law__600 : decode cL_law_ 600 = .ok (.invokevirtual 68, 3) := by decide +kernel
theorem dL_law__603 : decode cL_law_ 603 = .ok (.if_icmp .eq 703, 3) := by decide +kernel
theorem dL_law__606 : decode cL_law_ 606 = .ok (.iconst 0, 1) := by decide +kernel
theorem dL_law__607 : decode cL_law_ 607 = .ok (.ireturn, 1) := by decide +kernel
theorem dL_law__608 : decode cL_law_ 608 = .ok (.aload_n 1, 1) := by decide +kernel
theorem dL_law__609 : decode cL_law_ 609 = .ok (.aload_n 0, 1) := by decide +kernel
theorem dL_law__610 : decode cL_law_ 610 = .ok (.iload 4, 2) := by decide +kernel
theorem dL_law__612 : decode cL_law_ 612 = .ok (.iconst 1, 1) := by decide +kernel
theorem dL_law__613 : decode cL_law_ 613 = .ok (.iadd, 1) := by decide +kernel
theorem dL_law__614 : decode cL_law_ 614 = .ok (.iaload, 1) := by decide +kernel
theorem dL_law__615 : decode cL_law_ 615 = .ok (.invokevirtual 69, 3) := by decide +kernel
theorem dL_law__618 : decode cL_law_ 618 = .ok (.aload_n 2, 1) := by decide +kernel
theorem dL_law__619 : decode cL_law_ 619 = .ok (.aload_n 0, 1) := by decide +kernel
theorem dL_law__620 : decode cL_law_ 620 = .ok (.iload 4, 2) := by decide +kernel
theorem dL_law__622 : decode cL_law_ 622 = .ok (.iconst 1, 1) := by decide +kernel
theorem dL_law__623 : decode cL_law_ 623 = .ok (.iadd, 1) := by decide +kernel
theorem dL_law__624 : decode cL_law_ 624 = .ok (.iaload, 1) := by decide +kernel
theorem dL_law__625 : decode cL_law_ 625 = .ok (.invokevirtual 73, 3) := by decide +kernel
theorem dL_law__628 : decode cL_law_ 628 = .ok (.if_icmp .eq 678, 3) := by decide +kernel
theorem dL_law__631 : decode cL_law_ 631 = .ok (.iconst 0, 1) := by decide +kernel
theorem dL_law__632 : decode cL_law_ 632 = .ok (.ireturn, 1) := by decide +kernel
theorem dL_law__633 : decode cL_law_ 633 = .ok (.aload_n 1, 1) := by decide +kernel
theorem dL_law__634 : decode cL_law_ 634 = .ok (.aload_n 0, 1) := by decide +kernel
theorem dL_law__635 : decode cL_law_ 635 = .ok (.iload 4, 2) := by decide +kernel
theorem dL_law__637 : decode cL_law_ 637 = .ok (.iconst 1, 1) := by decide +kernel
theorem dL_law__638 : decode cL_law_ 638 = .ok (.iadd, 1) := by decide +kernel
theorem dL_law__639 : decode cL_law_ 639 = .ok (.iaload, 1) := by decide +kernel
theorem dL_law__640 : decode cL_law_ 640 = .ok (.aload_n 0, 1) := by decide +kernel
theorem dL_law__641 : decode cL_law_ 641 = .ok (.iload 4, 2) := by decide +kernel
theorem dL_law__643 : decode cL_law_ 643 = .ok (.iconst 2, 1) := by decide +kernel
theorem dL_law__644 : decode cL_law_ 644 = .ok (.iadd, 1) := by decide +kernel
theorem dL_law__645 : decode cL_law_ 645 = .ok (.iaload, 1) := by decide +kernel
theorem dL_law__646 : decode cL_law_ 646 = .ok (.aload_n 0, 1) := by decide +kernel
theorem dL_law__647 : decode cL_law_ 647 = .ok (.iload 4, 2) := by decide +kernel
theorem dL_law__649 : decode cL_law_ 649 = .ok (.iconst 3, 1) := by decide +kernel
theorem dL_law__650 : decode cL_law_ 650 = .ok (.iadd, 1) := by decide +kernel
theorem dL_law__651 : decode cL_law_ 651 = .ok (.iaload, 1) := by decide +kernel
theorem dL_law__652 : decode cL_law_ 652 = .ok (.aload_n 0, 1) := by decide +kernel
theorem dL_law__653 : decode cL_law_ 653 = .ok (.iload 4, 2) := by decide +kernel
theorem dL_law__655 : decode cL_law_ 655 = .ok (.iconst 4, 1) := by decide +kernel
theorem dL_law__656 : decode cL_law_ 656 = .ok (.iadd, 1) := by decide +kernel
theorem dL_law__657 : decode cL_law_ 657 = .ok (.iaload, 1) := by decide +kernel
theorem dL_law__658 : decode cL_law_ 658 = .ok (.invokevirtual 74, 3) := by decide +kernel
theorem dL_law__661 : decode cL_law_ 661 = .ok (.aload_n 2, 1) := by decide +kernel
theorem dL_law__662 : decode cL_law_ 662 = .ok (.aload_n 0, 1) := by decide +kernel
theorem dL_law__663 : decode cL_law_ 663 = .ok (.iload 4, 2) := by decide +kernel
theorem dL_law__665 : decode cL_law_ 665 = .ok (.iconst 1, 1) := by decide +kernel
theorem dL_law__666 : decode cL_law_ 666 = .ok (.iadd, 1) := by decide +kernel
theorem dL_law__667 : decode cL_law_ 667 = .ok (.iaload, 1) := by decide +kernel
theorem dL_law__668 : decode cL_law_ 668 = .ok (.aload_n 0, 1) := by decide +kernel
theorem dL_law__669 : decode cL_law_ 669 = .ok (.iload 4, 2) := by decide +kernel
theorem dL_law__671 : decode cL_law_ 671 = .ok (.iconst 2, 1) := by decide +kernel
theorem dL_law__672 : decode cL_law_ 672 = .ok (.iadd, 1) := by decide +kernel
theorem dL_law__673 : decode cL_law_ 673 = .ok (.iaload, 1) := by decide +kernel
theorem dL_law__674 : decode cL_law_ 674 = .ok (.aload_n 0, 1) := by decide +kernel
theorem dL_law__675 : decode cL_law_ 675 = .ok (.iload 4, 2) := by decide +kernel
theorem dL_law__677 : decode cL_law_ 677 = .ok (.iconst 3, 1) := by decide +kernel
theorem dL_law__678 : decode cL_law_ 678 = .ok (.iadd, 1) := by decide +kernel
theorem dL_law__679 : decode cL_law_ 679 = .ok (.iaload, 1) := by decide +kernel
theorem dL_law__680 : decode cL_law_ 680 = .ok (.aload_n 0, 1) := by decide +kernel
theorem dL_law__681 : decode cL_law_ 681 = .ok (.iload 4, 2) := by decide +kernel
theorem dL_law__683 : decode cL_law_ 683 = .ok (.iconst 4, 1) := by decide +kernel
theorem dL_law__684 : decode cL_law_ 684 = .ok (.iadd, 1) := by decide +kernel
theorem dL_law__685 : decode cL_law_ 685 = .ok (.iaload, 1) := by decide +kernel
theorem dL_law__686 : decode cL_law_ 686 = .ok (.invokevirtual 78, 3) := by decide +kernel
theorem dL_law__689 : decode cL_law_ 689 = .ok (.if_icmp .eq 617, 3) := by decide +kernel
theorem dL_law__692 : decode cL_law_ 692 = .ok (.iconst 0, 1) := by decide +kernel
theorem dL_law__693 : decode cL_law_ 693 = .ok (.ireturn, 1) := by decide +kernel
theorem dL_law__694 : decode cL_law_ 694 = .ok (.aload_n 1, 1) := by decide +kernel
theorem dL_law__695 : decode cL_law_ 695 = .ok (.aload_n 0, 1) := by decide +kernel
theorem dL_law__696 : decode cL_law_ 696 = .ok (.iload 4, 2) := by decide +kernel
theorem dL_law__698 : decode cL_law_ 698 = .ok (.iconst 1, 1) := by decide +kernel
theorem dL_law__699 : decode cL_law_ 699 = .ok (.iadd, 1) := by decide +kernel
theorem dL_law__700 : decode cL_law_ 700 = .ok (.iaload, 1) := by decide +kernel
theorem dL_law__701 : decode cL_law_ 701 = .ok (.aload_n 0, 1) := by decide +kernel
theorem dL_law__702 : decode cL_law_ 702 = .ok (.iload 4, 2) := by decide +kernel
theorem dL_law__704 : decode cL_law_ 704 = .ok (.iconst 2, 1) := by decide +kernel
theorem dL_law__705 : decode cL_law_ 705 = .ok (.iadd, 1) := by decide +kernel
theorem dL_law__706 : decode cL_law_ 706 = .ok (.iaload, 1) := by decide +kernel
theorem dL_law__707 : decode cL_law_ 707 = .ok (.invokevirtual 79, 3) := by decide +kernel
theorem dL_law__710 : decode cL_law_ 710 = .ok (.aload_n 2, 1) := by decide +kernel
theorem dL_law__711 : decode cL_law_ 711 = .ok (.aload_n 0, 1) := by decide +kernel
theorem dL_law__712 : decode cL_law_ 712 = .ok (.iload 4, 2) := by decide +kernel
theorem dL_law__714 : decode cL_law_ 714 = .ok (.iconst 1, 1) := by decide +kernel
theorem dL_law__715 : decode cL_law_ 715 = .ok (.iadd, 1) := by decide +kernel
theorem dL_law__716 : decode cL_law_ 716 = .ok (.iaload, 1) := by decide +kernel
theorem dL_law__717 : decode cL_law_ 717 = .ok (.aload_n 0, 1) := by decide +kernel
theorem dL_law__718 : decode cL_law_ 718 = .ok (.iload 4, 2) := by decide +kernel
theorem dL_law__720 : decode cL_law_ 720 = .ok (.iconst 2, 1) := by decide +kernel
theorem dL_law__721 : decode cL_law_ 721 = .ok (.iadd, 1) := by decide +kernel
theorem dL_law__722 : decode cL_law_ 722 = .ok (.iaload, 1) := by decide +kernel
theorem dL_law__723 : decode cL_law_ 723 = .ok (.invokevirtual 82, 3) := by decide +kernel
theorem dL_law__726 : decode cL_law_ 726 = .ok (.if_icmp .eq 580, 3) := by decide +kernel
theorem dL_law__729 : decode cL_law_ 729 = .ok (.iconst 0, 1) := by decide +kernel
theorem dL_law__730 : decode cL_law_ 730 = .ok (.ireturn, 1) := by decide +kernel
theorem dL_law__731 : decode cL_law_ 731 = .ok (.aload_n 1, 1) := by decide +kernel
theorem dL_law__732 : decode cL_law_ 732 = .ok (.aload_n 0, 1) := by decide +kernel
theorem dL_law__733 : decode cL_law_ 733 = .ok (.iload 4, 2) := by decide +kernel
theorem dL_law__735 : decode cL_law_ 735 = .ok (.iconst 1, 1) := by decide +kernel
theorem dL_law__736 : decode cL_law_ 736 = .ok (.iadd, 1) := by decide +kernel
theorem dL_law__737 : decode cL_law_ 737 = .ok (.iaload, 1) := by decide +kernel
theorem dL_law__738 : decode cL_law_ 738 = .ok (.invokevirtual 83, 3) := by decide +kernel
theorem dL_law__741 : decode cL_law_ 741 = .ok (.aload_n 2, 1) := by decide +kernel
theorem dL_law__742 : decode cL_law_ 742 = .ok (.aload_n 0, 1) := by decide +kernel
theorem dL_law__743 : decode cL_law_ 743 = .ok (.iload 4, 2) := by decide +kernel
theorem dL_law__745 : decode cL_law_ 745 = .ok (.iconst 1, 1) := by decide +kernel
theorem dL_law__746 : decode cL_law_ 746 = .ok (.iadd, 1) := by decide +kernel
theorem dL_law__747 : decode cL_law_ 747 = .ok (.iaload, 1) := by decide +kernel
theorem dL_law__748 : decode cL_law_ 748 = .ok (.invokevirtual 86, 3) := by decide +kernel
theorem dL_law__751 : decode cL_law_ 751 = .ok (.if_icmp .eq 555, 3) := by decide +kernel
theorem dL_law__754 : decode cL_law_ 754 = .ok (.iconst 0, 1) := by decide +kernel
theorem dL_law__755 : decode cL_law_ 755 = .ok (.ireturn, 1) := by decide +kernel
theorem dL_law__756 : decode cL_law_ 756 = .ok (.aload_n 1, 1) := by decide +kernel
theorem dL_law__757 : decode cL_law_ 757 = .ok (.invokevirtual 87, 3) := by decide +kernel
theorem dL_law__760 : decode cL_law_ 760 = .ok (.aload_n 2, 1) := by decide +kernel
theorem dL_law__761 : decode cL_law_ 761 = .ok (.invokevirtual 90, 3) := by decide +kernel
theorem dL_law__764 : decode cL_law_ 764 = .ok (.if_icmp .eq 542, 3) := by decide +kernel
theorem dL_law__767 : decode cL_law_ 767 = .ok (.iconst 0, 1) := by decide +kernel
theorem dL_law__768 : decode cL_law_ 768 = .ok (.ireturn, 1) := by decide +kernel
theorem dL_law__769 : decode cL_law_ 769 = .ok (.aload_n 1, 1) := by decide +kernel
theorem dL_law__770 : decode cL_law_ 770 = .ok (.aload_n 0, 1) := by decide +kernel
theorem dL_law__771 : decode cL_law_ 771 = .ok (.iload 4, 2) := by decide +kernel
theorem dL_law__773 : decode cL_law_ 773 = .ok (.iconst 1, 1) := by decide +kernel
theorem dL_law__774 : decode cL_law_ 774 = .ok (.iadd, 1) := by decide +kernel
theorem dL_law__775 : decode cL_law_ 775 = .ok (.iaload, 1) := by decide +kernel
theorem dL_law__776 : decode cL_law_ 776 = .ok (.invokevirtual 91, 3) := by decide +kernel
theorem dL_law__779 : decode cL_law_ 779 = .ok (.aload_n 2, 1) := by decide +kernel
theorem dL_law__780 : decode cL_law_ 780 = .ok (.aload_n 0, 1) := by decide +kernel
theorem dL_law__781 : decode cL_law_ 781 = .ok (.iload 4, 2) := by decide +kernel
theorem dL_law__783 : decode cL_law_ 783 = .ok (.iconst 1, 1) := by decide +kernel
theorem dL_law__784 : decode cL_law_ 784 = .ok (.iadd, 1) := by decide +kernel
theorem dL_law__785 : decode cL_law_ 785 = .ok (.iaload, 1) := by decide +kernel
theorem dL_law__786 : decode cL_law_ 786 = .ok (.invokevirtual 94, 3) := by decide +kernel
theorem dL_law__789 : decode cL_law_ 789 = .ok (.if_icmp .eq 517, 3) := by decide +kernel
theorem dL_law__792 : decode cL_law_ 792 = .ok (.iconst 0, 1) := by decide +kernel
theorem dL_law__793 : decode cL_law_ 793 = .ok (.ireturn, 1) := by decide +kernel
theorem dL_law__794 : decode cL_law_ 794 = .ok (.aload_n 1, 1) := by decide +kernel
theorem dL_law__795 : decode cL_law_ 795 = .ok (.aload_n 0, 1) := by decide +kernel
theorem dL_law__796 : decode cL_law_ 796 = .ok (.iload 4, 2) := by decide +kernel
theorem dL_law__798 : decode cL_law_ 798 = .ok (.iconst 1, 1) := by decide +kernel
theorem dL_law__799 : decode cL_law_ 799 = .ok (.iadd, 1) := by decide +kernel
theorem dL_law__800 : decode cL_law_ 800 = .ok (.iaload, 1) := by decide +kernel
theorem dL_law__801 : decode cL_law_ 801 = .ok (.invokevirtual 95, 3) := by decide +kernel
theorem dL_law__804 : decode cL_law_ 804 = .ok (.aload_n 2, 1) := by decide +kernel
theorem dL_law__805 : decode cL_law_ 805 = .ok (.aload_n 0, 1) := by decide +kernel
theorem dL_law__806 : decode cL_law_ 806 = .ok (.iload 4, 2) := by decide +kernel
theorem dL_law__808 : decode cL_law_ 808 = .ok (.iconst 1, 1) := by decide +kernel
theorem dL_law__809 : decode cL_law_ 809 = .ok (.iadd, 1) := by decide +kernel
theorem dL_law__810 : decode cL_law_ 810 = .ok (.iaload, 1) := by decide +kernel
theorem dL_law__811 : decode cL_law_ 811 = .ok (.invokevirtual 98, 3) := by decide +kernel
theorem dL_law__814 : decode cL_law_ 814 = .ok (.if_icmp .eq 492, 3) := by decide +kernel
theorem dL_law__817 : decode cL_law_ 817 = .ok (.iconst 0, 1) := by decide +kernel
theorem dL_law__818 : decode cL_law_ 818 = .ok (.ireturn, 1) := by decide +kernel
theorem dL_law__819 : decode cL_law_ 819 = .ok (.aload_n 1, 1) := by decide +kernel
theorem dL_law__820 : decode cL_law_ 820 = .ok (.aload_n 0, 1) := by decide +kernel
theorem dL_law__821 : decode cL_law_ 821 = .ok (.iload 4, 2) := by decide +kernel
theorem dL_law__823 : decode cL_law_ 823 = .ok (.iconst 1, 1) := by decide +kernel
theorem dL_law__824 : decode cL_law_ 824 = .ok (.iadd, 1) := by decide +kernel
theorem dL_law__825 : decode cL_law_ 825 = .ok (.iaload, 1) := by decide +kernel
theorem dL_law__826 : decode cL_law_ 826 = .ok (.invokevirtual 99, 3) := by decide +kernel
theorem dL_law__829 : decode cL_law_ 829 = .ok (.aload_n 2, 1) := by decide +kernel
theorem dL_law__830 : decode cL_law_ 830 = .ok (.aload_n 0, 1) := by decide +kernel
theorem dL_law__831 : decode cL_law_ 831 = .ok (.iload 4, 2) := by decide +kernel
theorem dL_law__833 : decode cL_law_ 833 = .ok (.iconst 1, 1) := by decide +kernel
theorem dL_law__834 : decode cL_law_ 834 = .ok (.iadd, 1) := by decide +kernel
theorem dL_law__835 : decode cL_law_ 835 = .ok (.iaload, 1) := by decide +kernel
theorem dL_law__836 : decode cL_law_ 836 = .ok (.invokevirtual 102, 3) := by decide +kernel
theorem dL_law__839 : decode cL_law_ 839 = .ok (.if_icmp .eq 467, 3) := by decide +kernel
theorem dL_law__842 : decode cL_law_ 842 = .ok (.iconst 0, 1) := by decide +kernel
theorem dL_law__843 : decode cL_law_ 843 = .ok (.ireturn, 1) := by decide +kernel
theorem dL_law__844 : decode cL_law_ 844 = .ok (.aload_n 1, 1) := by decide +kernel
theorem dL_law__845 : decode cL_law_ 845 = .ok (.aload_n 0, 1) := by decide +kernel
theorem dL_law__846 : decode cL_law_ 846 = .ok (.iload 4, 2) := by decide +kernel
theorem dL_law__848 : decode cL_law_ 848 = .ok (.iconst 1, 1) := by decide +kernel
theorem dL_law__849 : decode cL_law_ 849 = .ok (.iadd, 1) := by decide +kernel
theorem dL_law__850 : decode cL_law_ 850 = .ok (.iaload, 1) := by decide +kernel
theorem dL_law__851 : decode cL_law_ 851 = .ok (.aload_n 0, 1) := by decide +kernel
theorem dL_law__852 : decode cL_law_ 852 = .ok (.iload 4, 2) := by decide +kernel
theorem dL_law__854 : decode cL_law_ 854 = .ok (.iconst 2, 1) := by decide +kernel
theorem dL_law__855 : decode cL_law_ 855 = .ok (.iadd, 1) := by decide +kernel
theorem dL_law__856 : decode cL_law_ 856 = .ok (.iaload, 1) := by decide +kernel
theorem dL_law__857 : decode cL_law_ 857 = .ok (.invokevirtual 103, 3) := by decide +kernel
theorem dL_law__860 : decode cL_law_ 860 = .ok (.aload_n 2, 1) := by decide +kernel
theorem dL_law__861 : decode cL_law_ 861 = .ok (.aload_n 0, 1) := by decide +kernel
theorem dL_law__862 : decode cL_law_ 862 = .ok (.iload 4, 2) := by decide +kernel
theorem dL_law__864 : decode cL_law_ 864 = .ok (.iconst 1, 1) := by decide +kernel
theorem dL_law__865 : decode cL_law_ 865 = .ok (.iadd, 1) := by decide +kernel
theorem dL_law__866 : decode cL_law_ 866 = .ok (.iaload, 1) := by decide +kernel
theorem dL_law__867 : decode cL_law_ 867 = .ok (.aload_n 0, 1) := by decide +kernel
theorem dL_law__868 : decode cL_law_ 868 = .ok (.iload 4, 2) := by decide +kernel
theorem dL_law__870 : decode cL_law_ 870 = .ok (.iconst 2, 1) := by decide +kernel
theorem dL_law__871 : decode cL_law_ 871 = .ok (.iadd, 1) := by decide +kernel
theorem dL_law__872 : decode cL_law_ 872 = .ok (.iaload, 1) := by decide +kernel
theorem dL_law__873 : decode cL_law_ 873 = .ok (.invokevirtual 106, 3) := by decide +kernel
theorem dL_law__876 : decode cL_law_ 876 = .ok (.if_icmp .eq 430, 3) := by decide +kernel
theorem dL_law__879 : decode cL_law_ 879 = .ok (.iconst 0, 1) := by decide +kernel
theorem dL_law__880 : decode cL_law_ 880 = .ok (.ireturn, 1) := by decide +kernel
theorem dL_law__881 : decode cL_law_ 881 = .ok (.aload_n 1, 1) := by decide +kernel
theorem dL_law__882 : decode cL_law_ 882 = .ok (.aload_n 0, 1) := by decide +kernel
theorem dL_law__883 : decode cL_law_ 883 = .ok (.iload 4, 2) := by decide +kernel
theorem dL_law__885 : decode cL_law_ 885 = .ok (.iconst 1, 1) := by decide +kernel
theorem dL_law__886 : decode cL_law_ 886 = .ok (.iadd, 1) := by decide +kernel
theorem dL_law__887 : decode cL_law_ 887 = .ok (.iaload, 1) := by decide +kernel
theorem dL_law__888 : decode cL_law_ 888 = .ok (.invokevirtual 107, 3) := by decide +kernel
theorem dL_law__891 : decode cL_law_ 891 = .ok (.aload_n 2, 1) := by decide +kernel
theorem dL_law__892 : decode cL_law_ 892 = .ok (.aload_n 0, 1) := by decide +kernel
theorem dL_law__893 : decode cL_law_ 893 = .ok (.iload 4, 2) := by decide +kernel
theorem dL_law__895 : decode cL_law_ 895 = .ok (.iconst 1, 1) := by decide +kernel
theorem dL_law__896 : decode cL_law_ 896 = .ok (.iadd, 1) := by decide +kernel
theorem dL_law__897 : decode cL_law_ 897 = .ok (.iaload, 1) := by decide +kernel
theorem dL_law__898 : decode cL_law_ 898 = .ok (.invokevirtual 110, 3) := by decide +kernel
theorem dL_law__901 : decode cL_law_ 901 = .ok (.if_icmp .eq 405, 3) := by decide +kernel
theorem dL_law__904 : decode cL_law_ 904 = .ok (.iconst 0, 1) := by decide +kernel
theorem dL_law__905 : decode cL_law_ 905 = .ok (.ireturn, 1) := by decide +kernel
theorem dL_law__906 : decode cL_law_ 906 = .ok (.aload_n 1, 1) := by decide +kernel
theorem dL_law__907 : decode cL_law_ 907 = .ok (.aload_n 0, 1) := by decide +kernel
theorem dL_law__908 : decode cL_law_ 908 = .ok (.iload 4, 2) := by decide +kernel
theorem dL_law__910 : decode cL_law_ 910 = .ok (.iconst 1, 1) := by decide +kernel
theorem dL_law__911 : decode cL_law_ 911 = .ok (.iadd, 1) := by decide +kernel
theorem dL_law__912 : decode cL_law_ 912 = .ok (.iaload, 1) := by decide +kernel
theorem dL_law__913 : decode cL_law_ 913 = .ok (.invokevirtual 111, 3) := by decide +kernel
theorem dL_law__916 : decode cL_law_ 916 = .ok (.aload_n 2, 1) := by decide +kernel
theorem dL_law__917 : decode cL_law_ 917 = .ok (.aload_n 0, 1) := by decide +kernel
theorem dL_law__918 : decode cL_law_ 918 = .ok (.iload 4, 2) := by decide +kernel
theorem dL_law__920 : decode cL_law_ 920 = .ok (.iconst 1, 1) := by decide +kernel
theorem dL_law__921 : decode cL_law_ 921 = .ok (.iadd, 1) := by decide +kernel
theorem dL_law__922 : decode cL_law_ 922 = .ok (.iaload, 1) := by decide +kernel
theorem dL_law__923 : decode cL_law_ 923 = .ok (.invokevirtual 114, 3) := by decide +kernel
theorem dL_law__926 : decode cL_law_ 926 = .ok (.if_icmp .eq 380, 3) := by decide +kernel
theorem dL_law__929 : decode cL_law_ 929 = .ok (.iconst 0, 1) := by decide +kernel
theorem dL_law__930 : decode cL_law_ 930 = .ok (.ireturn, 1) := by decide +kernel
theorem dL_law__931 : decode cL_law_ 931 = .ok (.aload_n 1, 1) := by decide +kernel
theorem dL_law__932 : decode cL_law_ 932 = .ok (.invokevirtual 115, 3) := by decide +kernel
theorem dL_law__935 : decode cL_law_ 935 = .ok (.aload_n 2, 1) := by decide +kernel
theorem dL_law__936 : decode cL_law_ 936 = .ok (.invokevirtual 118, 3) := by decide +kernel
theorem dL_law__939 : decode cL_law_ 939 = .ok (.if_icmp .eq 367, 3) := by decide +kernel
theorem dL_law__942 : decode cL_law_ 942 = .ok (.iconst 0, 1) := by decide +kernel
theorem dL_law__943 : decode cL_law_ 943 = .ok (.ireturn, 1) := by decide +kernel
theorem dL_law__944 : decode cL_law_ 944 = .ok (.aload_n 1, 1) := by decide +kernel
theorem dL_law__945 : decode cL_law_ 945 = .ok (.aload_n 0, 1) := by decide +kernel
theorem dL_law__946 : decode cL_law_ 946 = .ok (.iload 4, 2) := by decide +kernel
theorem dL_law__948 : decode cL_law_ 948 = .ok (.iconst 1, 1) := by decide +kernel
theorem dL_law__949 : decode cL_law_ 949 = .ok (.iadd, 1) := by decide +kernel
theorem dL_law__950 : decode cL_law_ 950 = .ok (.iaload, 1) := by decide +kernel
theorem dL_law__951 : decode cL_law_ 951 = .ok (.invokevirtual 119, 3) := by decide +kernel
theorem dL_law__954 : decode cL_law_ 954 = .ok (.aload_n 2, 1) := by decide +kernel
theorem dL_law__955 : decode cL_law_ 955 = .ok (.aload_n 0, 1) := by decide +kernel
theorem dL_law__956 : decode cL_law_ 956 = .ok (.iload 4, 2) := by decide +kernel
theorem dL_law__958 : decode cL_law_ 958 = .ok (.iconst 1, 1) := by decide +kernel
theorem dL_law__959 : decode cL_law_ 959 = .ok (.iadd, 1) := by decide +kernel
theorem dL_law__960 : decode cL_law_ 960 = .ok (.iaload, 1) := by decide +kernel
theorem dL_law__961 : decode cL_law_ 961 = .ok (.invokevirtual 122, 3) := by decide +kernel
theorem dL_law__964 : decode cL_law_ 964 = .ok (.if_icmp .eq 342, 3) := by decide +kernel
theorem dL_law__967 : decode cL_law_ 967 = .ok (.iconst 0, 1) := by decide +kernel
theorem dL_law__968 : decode cL_law_ 968 = .ok (.ireturn, 1) := by decide +kernel
theorem dL_law__969 : decode cL_law_ 969 = .ok (.aload_n 1, 1) := by decide +kernel
theorem dL_law__970 : decode cL_law_ 970 = .ok (.aload_n 0, 1) := by decide +kernel
theorem dL_law__971 : decode cL_law_ 971 = .ok (.iload 4, 2) := by decide +kernel
theorem dL_law__973 : decode cL_law_ 973 = .ok (.iconst 1, 1) := by decide +kernel
theorem dL_law__974 : decode cL_law_ 974 = .ok (.iadd, 1) := by decide +kernel
theorem dL_law__975 : decode cL_law_ 975 = .ok (.iaload, 1) := by decide +kernel
theorem dL_law__976 : decode cL_law_ 976 = .ok (.invokevirtual 123, 3) := by decide +kernel
theorem dL_law__979 : decode cL_law_ 979 = .ok (.aload_n 2, 1) := by decide +kernel
theorem dL_law__980 : decode cL_law_ 980 = .ok (.aload_n 0, 1) := by decide +kernel
theorem dL_law__981 : decode cL_law_ 981 = .ok (.iload 4, 2) := by decide +kernel
theorem dL_law__983 : decode cL_law_ 983 = .ok (.iconst 1, 1) := by decide +kernel
theorem dL_law__984 : decode cL_law_ 984 = .ok (.iadd, 1) := by decide +kernel
theorem dL_law__985 : decode cL_law_ 985 = .ok (.iaload, 1) := by decide +kernel
theorem dL_law__986 : decode cL_law_ 986 = .ok (.invokevirtual 126, 3) := by decide +kernel
theorem dL_law__989 : decode cL_law_ 989 = .ok (.if_icmp .eq 317, 3) := by decide +kernel
theorem dL_law__992 : decode cL_law_ 992 = .ok (.iconst 0, 1) := by decide +kernel
theorem dL_law__993 : decode cL_law_ 993 = .ok (.ireturn, 1) := by decide +kernel
theorem dL_law__994 : decode cL_law_ 994 = .ok (.aload_n 1, 1) := by decide +kernel
theorem dL_law__995 : decode cL_law_ 995 = .ok (.invokevirtual 127, 3) := by decide +kernel
theorem dL_law__998 : decode cL_law_ 998 = .ok (.aload_n 2, 1) := by decide +kernel
theorem dL_law__999 : decode cL_law_ 999 = .ok (.invokevirtual 130, 3) := by decide +kernel
theorem dL_law__1002 : decode cL_law_ 1002 = .ok (.if_icmp .eq 304, 3) := by decide +kernel
theorem dL_law__1005 : decode cL_law_ 1005 = .ok (.iconst 0, 1) := by decide +kernel
theorem dL_law__1006 : decode cL_law_ 1006 = .ok (.ireturn, 1) := by decide +kernel
theorem dL_law__1007 : decode cL_law_ 1007 = .ok (.aload_n 1, 1) := by decide +kernel
theorem dL_law__1008 : decode cL_law_ 1008 = .ok (.aload_n 0, 1) := by decide +kernel
theorem dL_law__1009 : decode cL_law_ 1009 = .ok (.iload 4, 2) := by decide +kernel
theorem dL_law__1011 : decode cL_law_ 1011 = .ok (.iconst 1, 1) := by decide +kernel
theorem dL_law__1012 : decode cL_law_ 1012 = .ok (.iadd, 1) := by decide +kernel
theorem dL_law__1013 : decode cL_law_ 1013 = .ok (.iaload, 1) := by decide +kernel
theorem dL_law__1014 : decode cL_law_ 1014 = .ok (.invokevirtual 131, 3) := by decide +kernel
theorem dL_law__1017 : decode cL_law_ 1017 = .ok (.aload_n 2, 1) := by decide +kernel
theorem dL_law__1018 : decode cL_law_ 1018 = .ok (.aload_n 0, 1) := by decide +kernel
theorem dL_law__1019 : decode cL_law_ 1019 = .ok (.iload 4, 2) := by decide +kernel
theorem dL_law__1021 : decode cL_law_ 1021 = .ok (.iconst 1, 1) := by decide +kernel
theorem dL_law__1022 : decode cL_law_ 1022 = .ok (.iadd, 1) := by decide +kernel
theorem dL_law__1023 : decode cL_law_ 1023 = .ok (.iaload, 1) := by decide +kernel
theorem dL_law__1024 : decode cL_law_ 1024 = .ok (.invokevirtual 134, 3) := by decide +kernel
theorem dL_law__1027 : decode cL_law_ 1027 = .ok (.if_icmp .eq 279, 3) := by decide +kernel
theorem dL_law__1030 : decode cL_law_ 1030 = .ok (.iconst 0, 1) := by decide +kernel
theorem dL_law__1031 : decode cL_law_ 1031 = .ok (.ireturn, 1) := by decide +kernel
theorem dL_law__1032 : decode cL_law_ 1032 = .ok (.aload_n 1, 1) := by decide +kernel
theorem dL_law__1033 : decode cL_law_ 1033 = .ok (.aload_n 0, 1) := by decide +kernel
theorem dL_law__1034 : decode cL_law_ 1034 = .ok (.iload 4, 2) := by decide +kernel
theorem dL_law__1036 : decode cL_law_ 1036 = .ok (.iconst 1, 1) := by decide +kernel
theorem dL_law__1037 : decode cL_law_ 1037 = .ok (.iadd, 1) := by decide +kernel
theorem dL_law__1038 : decode cL_law_ 1038 = .ok (.iaload, 1) := by decide +kernel
theorem dL_law__1039 : decode cL_law_ 1039 = .ok (.invokevirtual 135, 3) := by decide +kernel
theorem dL_law__1042 : decode cL_law_ 1042 = .ok (.aload_n 2, 1) := by decide +kernel
theorem dL_law__1043 : decode cL_law_ 1043 = .ok (.aload_n 0, 1) := by decide +kernel
theorem dL_law__1044 : decode cL_law_ 1044 = .ok (.iload 4, 2) := by decide +kernel
theorem dL_law__1046 : decode cL_law_ 1046 = .ok (.iconst 1, 1) := by decide +kernel
theorem dL_law__1047 : decode cL_law_ 1047 = .ok (.iadd, 1) := by decide +kernel
theorem dL_law__1048 : decode cL_law_ 1048 = .ok (.iaload, 1) := by decide +kernel
theorem dL_law__1049 : decode cL_law_ 1049 = .ok (.invokevirtual 138, 3) := by decide +kernel
theorem dL_law__1052 : decode cL_law_ 1052 = .ok (.if_icmp .eq 254, 3) := by decide +kernel
theorem dL_law__1055 : decode cL_law_ 1055 = .ok (.iconst 0, 1) := by decide +kernel
theorem dL_law__1056 : decode cL_law_ 1056 = .ok (.ireturn, 1) := by decide +kernel
theorem dL_law__1057 : decode cL_law_ 1057 = .ok (.aload_n 1, 1) := by decide +kernel
theorem dL_law__1058 : decode cL_law_ 1058 = .ok (.aload_n 0, 1) := by decide +kernel
theorem dL_law__1059 : decode cL_law_ 1059 = .ok (.iload 4, 2) := by decide +kernel
theorem dL_law__1061 : decode cL_law_ 1061 = .ok (.iconst 1, 1) := by decide +kernel
theorem dL_law__1062 : decode cL_law_ 1062 = .ok (.iadd, 1) := by decide +kernel
theorem dL_law__1063 : decode cL_law_ 1063 = .ok (.iaload, 1) := by decide +kernel
theorem dL_law__1064 : decode cL_law_ 1064 = .ok (.aload_n 0, 1) := by decide +kernel
theorem dL_law__1065 : decode cL_law_ 1065 = .ok (.iload 4, 2) := by decide +kernel
theorem dL_law__1067 : decode cL_law_ 1067 = .ok (.iconst 2, 1) := by decide +kernel
theorem dL_law__1068 : decode cL_law_ 1068 = .ok (.iadd, 1) := by decide +kernel
theorem dL_law__1069 : decode cL_law_ 1069 = .ok (.iaload, 1) := by decide +kernel
theorem dL_law__1070 : decode cL_law_ 1070 = .ok (.invokevirtual 139, 3) := by decide +kernel
theorem dL_law__1073 : decode cL_law_ 1073 = .ok (.aload_n 2, 1) := by decide +kernel
theorem dL_law__1074 : decode cL_law_ 1074 = .ok (.aload_n 0, 1) := by decide +kernel
theorem dL_law__1075 : decode cL_law_ 1075 = .ok (.iload 4, 2) := by decide +kernel
theorem dL_law__1077 : decode cL_law_ 1077 = .ok (.iconst 1, 1) := by decide +kernel
theorem dL_law__1078 : decode cL_law_ 1078 = .ok (.iadd, 1) := by decide +kernel
theorem dL_law__1079 : decode cL_law_ 1079 = .ok (.iaload, 1) := by decide +kernel
theorem dL_law__1080 : decode cL_law_ 1080 = .ok (.aload_n 0, 1) := by decide +kernel
theorem dL_law__1081 : decode cL_law_ 1081 = .ok (.iload 4, 2) := by decide +kernel
theorem dL_law__1083 : decode cL_law_ 1083 = .ok (.iconst 2, 1) := by decide +kernel
theorem dL_law__1084 : decode cL_law_ 1084 = .ok (.iadd, 1) := by decide +kernel
theorem dL_law__1085 : decode cL_law_ 1085 = .ok (.iaload, 1) := by decide +kernel
theorem dL_law__1086 : decode cL_law_ 1086 = .ok (.invokevirtual 142, 3) := by decide +kernel
theorem dL_law__1089 : decode cL_law_ 1089 = .ok (.if_icmp .eq 217, 3) := by decide +kernel
theorem dL_law__1092 : decode cL_law_ 1092 = .ok (.iconst 0, 1) := by decide +kernel
theorem dL_law__1093 : decode cL_law_ 1093 = .ok (.ireturn, 1) := by decide +kernel
theorem dL_law__1094 : decode cL_law_ 1094 = .ok (.aload_n 1, 1) := by decide +kernel
theorem dL_law__1095 : decode cL_law_ 1095 = .ok (.aload_n 0, 1) := by decide +kernel
theorem dL_law__1096 : decode cL_law_ 1096 = .ok (.iload 4, 2) := by decide +kernel
theorem dL_law__1098 : decode cL_law_ 1098 = .ok (.iconst 1, 1) := by decide +kernel
theorem dL_law__1099 : decode cL_law_ 1099 = .ok (.iadd, 1) := by decide +kernel
theorem dL_law__1100 : decode cL_law_ 1100 = .ok (.iaload, 1) := by decide +kernel
theorem dL_law__1101 : decode cL_law_ 1101 = .ok (.aload_n 0, 1) := by decide +kernel
theorem dL_law__1102 : decode cL_law_ 1102 = .ok (.iload 4, 2) := by decide +kernel
theorem dL_law__1104 : decode cL_law_ 1104 = .ok (.iconst 2, 1) := by decide +kernel
theorem dL_law__1105 : decode cL_law_ 1105 = .ok (.iadd, 1) := by decide +kernel
theorem dL_law__1106 : decode cL_law_ 1106 = .ok (.iaload, 1) := by decide +kernel
theorem dL_law__1107 : decode cL_law_ 1107 = .ok (.aload_n 0, 1) := by decide +kernel
theorem dL_law__1108 : decode cL_law_ 1108 = .ok (.iload 4, 2) := by decide +kernel
theorem dL_law__1110 : decode cL_law_ 1110 = .ok (.iconst 3, 1) := by decide +kernel
theorem dL_law__1111 : decode cL_law_ 1111 = .ok (.iadd, 1) := by decide +kernel
theorem dL_law__1112 : decode cL_law_ 1112 = .ok (.iaload, 1) := by decide +kernel
theorem dL_law__1113 : decode cL_law_ 1113 = .ok (.invokevirtual 143, 3) := by decide +kernel
theorem dL_law__1116 : decode cL_law_ 1116 = .ok (.aload_n 2, 1) := by decide +kernel
theorem dL_law__1117 : decode cL_law_ 1117 = .ok (.aload_n 0, 1) := by decide +kernel
theorem dL_law__1118 : decode cL_law_ 1118 = .ok (.iload 4, 2) := by decide +kernel
theorem dL_law__1120 : decode cL_law_ 1120 = .ok (.iconst 1, 1) := by decide +kernel
theorem dL_law__1121 : decode cL_law_ 1121 = .ok (.iadd, 1) := by decide +kernel
theorem dL_law__1122 : decode cL_law_ 1122 = .ok (.iaload, 1) := by decide +kernel
theorem dL_law__1123 : decode cL_law_ 1123 = .ok (.aload_n 0, 1) := by decide +kernel
theorem dL_law__1124 : decode cL_law_ 1124 = .ok (.iload 4, 2) := by decide +kernel
theorem dL_law__1126 : decode cL_law_ 1126 = .ok (.iconst 2, 1) := by decide +kernel
theorem dL_law__1127 : decode cL_law_ 1127 = .ok (.iadd, 1) := by decide +kernel
theorem dL_law__1128 : decode cL_law_ 1128 = .ok (.iaload, 1) := by decide +kernel
theorem dL_law__1129 : decode cL_law_ 1129 = .ok (.aload_n 0, 1) := by decide +kernel
theorem dL_law__1130 : decode cL_law_ 1130 = .ok (.iload 4, 2) := by decide +kernel
theorem dL_law__1132 : decode cL_law_ 1132 = .ok (.iconst 3, 1) := by decide +kernel
theorem dL_law__1133 : decode cL_law_ 1133 = .ok (.iadd, 1) := by decide +kernel
theorem dL_law__1134 : decode cL_law_ 1134 = .ok (.iaload, 1) := by decide +kernel
theorem dL_law__1135 : decode cL_law_ 1135 = .ok (.invokevirtual 147, 3) := by decide +kernel
theorem dL_law__1138 : decode cL_law_ 1138 = .ok (.if_icmp .eq 168, 3) := by decide +kernel
theorem dL_law__1141 : decode cL_law_ 1141 = .ok (.iconst 0, 1) := by decide +kernel
theorem dL_law__1142 : decode cL_law_ 1142 = .ok (.ireturn, 1) := by decide +kernel
theorem dL_law__1143 : decode cL_law_ 1143 = .ok (.aload_n 1, 1) := by decide +kernel
theorem dL_law__1144 : decode cL_law_ 1144 = .ok (.aload_n 0, 1) := by decide +kernel
theorem dL_law__1145 : decode cL_law_ 1145 = .ok (.iload 4, 2) := by decide +kernel
theorem dL_law__1147 : decode cL_law_ 1147 = .ok (.iconst 1, 1) := by decide +kernel
theorem dL_law__1148 : decode cL_law_ 1148 = .ok (.iadd, 1) := by decide +kernel
theorem dL_law__1149 : decode cL_law_ 1149 = .ok (.iaload, 1) := by decide +kernel
theorem dL_law__1150 : decode cL_law_ 1150 = .ok (.invokevirtual 148, 3) := by decide +kernel
theorem dL_law__1153 : decode cL_law_ 1153 = .ok (.aload_n 2, 1) := by decide +kernel
theorem dL_law__1154 : decode cL_law_ 1154 = .ok (.aload_n 0, 1) := by decide +kernel
theorem dL_law__1155 : decode cL_law_ 1155 = .ok (.iload 4, 2) := by decide +kernel
theorem dL_law__1157 : decode cL_law_ 1157 = .ok (.iconst 1, 1) := by decide +kernel
theorem dL_law__1158 : decode cL_law_ 1158 = .ok (.iadd, 1) := by decide +kernel
theorem dL_law__1159 : decode cL_law_ 1159 = .ok (.iaload, 1) := by decide +kernel
theorem dL_law__1160 : decode cL_law_ 1160 = .ok (.invokevirtual 151, 3) := by decide +kernel
theorem dL_law__1163 : decode cL_law_ 1163 = .ok (.if_icmp .eq 143, 3) := by decide +kernel
theorem dL_law__1166 : decode cL_law_ 1166 = .ok (.iconst 0, 1) := by decide +kernel
theorem dL_law__1167 : decode cL_law_ 1167 = .ok (.ireturn, 1) := by decide +kernel
theorem dL_law__1168 : decode cL_law_ 1168 = .ok (.aload_n 1, 1) := by decide +kernel
theorem dL_law__1169 : decode cL_law_ 1169 = .ok (.aload_n 0, 1) := by decide +kernel
theorem dL_law__1170 : decode cL_law_ 1170 = .ok (.iload 4, 2) := by decide +kernel
theorem dL_law__1172 : decode cL_law_ 1172 = .ok (.iconst 1, 1) := by decide +kernel
theorem dL_law__1173 : decode cL_law_ 1173 = .ok (.iadd, 1) := by decide +kernel
theorem dL_law__1174 : decode cL_law_ 1174 = .ok (.iaload, 1) := by decide +kernel
theorem dL_law__1175 : decode cL_law_ 1175 = .ok (.invokevirtual 152, 3) := by decide +kernel
theorem dL_law__1178 : decode cL_law_ 1178 = .ok (.aload_n 2, 1) := by decide +kernel
theorem dL_law__1179 : decode cL_law_ 1179 = .ok (.aload_n 0, 1) := by decide +kernel
theorem dL_law__1180 : decode cL_law_ 1180 = .ok (.iload 4, 2) := by decide +kernel
theorem dL_law__1182 : decode cL_law_ 1182 = .ok (.iconst 1, 1) := by decide +kernel
theorem dL_law__1183 : decode cL_law_ 1183 = .ok (.iadd, 1) := by decide +kernel
theorem dL_law__1184 : decode cL_law_ 1184 = .ok (.iaload, 1) := by decide +kernel
theorem dL_law__1185 : decode cL_law_ 1185 = .ok (.invokevirtual 155, 3) := by decide +kernel
theorem dL_law__1188 : decode cL_law_ 1188 = .ok (.if_icmp .eq 118, 3) := by decide +kernel
theorem dL_law__1191 : decode cL_law_ 1191 = .ok (.iconst 0, 1) := by decide +kernel
theorem dL_law__1192 : decode cL_law_ 1192 = .ok (.ireturn, 1) := by decide +kernel
theorem dL_law__1193 : decode cL_law_ 1193 = .ok (.aload_n 1, 1) := by decide +kernel
theorem dL_law__1194 : decode cL_law_ 1194 = .ok (.invokevirtual 156, 3) := by decide +kernel
theorem dL_law__1197 : decode cL_law_ 1197 = .ok (.aload_n 2, 1) := by decide +kernel
theorem dL_law__1198 : decode cL_law_ 1198 = .ok (.invokevirtual 159, 3) := by decide +kernel
theorem dL_law__1201 : decode cL_law_ 1201 = .ok (.if_icmp .eq 105, 3) := by decide +kernel
theorem dL_law__1204 : decode cL_law_ 1204 = .ok (.iconst 0, 1) := by decide +kernel
theorem dL_law__1205 : decode cL_law_ 1205 = .ok (.ireturn, 1) := by decide +kernel
theorem dL_law__1206 : decode cL_law_ 1206 = .ok (.aload_n 1, 1) := by decide +kernel
theorem dL_law__1207 : decode cL_law_ 1207 = .ok (.aload_n 0, 1) := by decide +kernel
theorem dL_law__1208 : decode cL_law_ 1208 = .ok (.iload 4, 2) := by decide +kernel
theorem dL_law__1210 : decode cL_law_ 1210 = .ok (.iconst 1, 1) := by decide +kernel
theorem dL_law__1211 : decode cL_law_ 1211 = .ok (.iadd, 1) := by decide +kernel
theorem dL_law__1212 : decode cL_law_ 1212 = .ok (.iaload, 1) := by decide +kernel
theorem dL_law__1213 : decode cL_law_ 1213 = .ok (.invokevirtual 160, 3) := by decide +kernel
theorem dL_law__1216 : decode cL_law_ 1216 = .ok (.aload_n 2, 1) := by decide +kernel
theorem dL_law__1217 : decode cL_law_ 1217 = .ok (.aload_n 0, 1) := by decide +kernel
theorem dL_law__1218 : decode cL_law_ 1218 = .ok (.iload 4, 2) := by decide +kernel
theorem dL_law__1220 : decode cL_law_ 1220 = .ok (.iconst 1, 1) := by decide +kernel
theorem dL_law__1221 : decode cL_law_ 1221 = .ok (.iadd, 1) := by decide +kernel
theorem dL_law__1222 : decode cL_law_ 1222 = .ok (.iaload, 1) := by decide +kernel
theorem dL_law__1223 : decode cL_law_ 1223 = .ok (.invokevirtual 163, 3) := by decide +kernel
theorem dL_law__1226 : decode cL_law_ 1226 = .ok (.if_icmp .eq 80, 3) := by decide +kernel
theorem dL_law__1229 : decode cL_law_ 1229 = .ok (.iconst 0, 1) := by decide +kernel
theorem dL_law__1230 : decode cL_law_ 1230 = .ok (.ireturn, 1) := by decide +kernel
theorem dL_law__1231 : decode cL_law_ 1231 = .ok (.aload_n 1, 1) := by decide +kernel
theorem dL_law__1232 : decode cL_law_ 1232 = .ok (.aload_n 0, 1) := by decide +kernel
theorem dL_law__1233 : decode cL_law_ 1233 = .ok (.iload 4, 2) := by decide +kernel
theorem dL_law__1235 : decode cL_law_ 1235 = .ok (.iconst 1, 1) := by decide +kernel
theorem dL_law__1236 : decode cL_law_ 1236 = .ok (.iadd, 1) := by decide +kernel
theorem dL_law__1237 : decode cL_law_ 1237 = .ok (.iaload, 1) := by decide +kernel
theorem dL_law__1238 : decode cL_law_ 1238 = .ok (.invokevirtual 164, 3) := by decide +kernel
theorem dL_law__1241 : decode cL_law_ 1241 = .ok (.aload_n 2, 1) := by decide +kernel
theorem dL_law__1242 : decode cL_law_ 1242 = .ok (.aload_n 0, 1) := by decide +kernel
theorem dL_law__1243 : decode cL_law_ 1243 = .ok (.iload 4, 2) := by decide +kernel
theorem dL_law__1245 : decode cL_law_ 1245 = .ok (.iconst 1, 1) := by decide +kernel
theorem dL_law__1246 : decode cL_law_ 1246 = .ok (.iadd, 1) := by decide +kernel
theorem dL_law__1247 : decode cL_law_ 1247 = .ok (.iaload, 1) := by decide +kernel
theorem dL_law__1248 : decode cL_law_ 1248 = .ok (.invokevirtual 167, 3) := by decide +kernel
theorem dL_law__1251 : decode cL_law_ 1251 = .ok (.if_icmp .eq 55, 3) := by decide +kernel
theorem dL_law__1254 : decode cL_law_ 1254 = .ok (.iconst 0, 1) := by decide +kernel
theorem dL_law__1255 : decode cL_law_ 1255 = .ok (.ireturn, 1) := by decide +kernel
theorem dL_law__1256 : decode cL_law_ 1256 = .ok (.aload_n 1, 1) := by decide +kernel
theorem dL_law__1257 : decode cL_law_ 1257 = .ok (.aload_n 0, 1) := by decide +kernel
theorem dL_law__1258 : decode cL_law_ 1258 = .ok (.iload 4, 2) := by decide +kernel
theorem dL_law__1260 : decode cL_law_ 1260 = .ok (.iconst 1, 1) := by decide +kernel
theorem dL_law__1261 : decode cL_law_ 1261 = .ok (.iadd, 1) := by decide +kernel
theorem dL_law__1262 : decode cL_law_ 1262 = .ok (.iaload, 1) := by decide +kernel
theorem dL_law__1263 : decode cL_law_ 1263 = .ok (.invokevirtual 168, 3) := by decide +kernel
theorem dL_law__1266 : decode cL_law_ 1266 = .ok (.aload_n 2, 1) := by decide +kernel
theorem dL_law__1267 : decode cL_law_ 1267 = .ok (.aload_n 0, 1) := by decide +kernel
theorem dL_law__1268 : decode cL_law_ 1268 = .ok (.iload 4, 2) := by decide +kernel
theorem dL_law__1270 : decode cL_law_ 1270 = .ok (.iconst 1, 1) := by decide +kernel
theorem dL_law__1271 : decode cL_law_ 1271 = .ok (.iadd, 1) := by decide +kernel
theorem dL_law__1272 : decode cL_law_ 1272 = .ok (.iaload, 1) := by decide +kernel
theorem dL_law__1273 : decode cL_law_ 1273 = .ok (.invokevirtual 171, 3) := by decide +kernel
theorem dL_law__1276 : decode cL_law_ 1276 = .ok (.if_icmp .eq 30, 3) := by decide +kernel
theorem dL_law__1279 : decode cL_law_ 1279 = .ok (.iconst 0, 1) := by decide +kernel
theorem dL_law__1280 : decode cL_law_ 1280 = .ok (.ireturn, 1) := by decide +kernel
theorem dL_law__1281 : decode cL_law_ 1281 = .ok (.aload_n 1, 1) := by decide +kernel
theorem dL_law__1282 : decode cL_law_ 1282 = .ok (.aload_n 0, 1) := by decide +kernel
theorem dL_law__1283 : decode cL_law_ 1283 = .ok (.iload 4, 2) := by decide +kernel
theorem dL_law__1285 : decode cL_law_ 1285 = .ok (.iconst 1, 1) := by decide +kernel
theorem dL_law__1286 : decode cL_law_ 1286 = .ok (.iadd, 1) := by decide +kernel
theorem dL_law__1287 : decode cL_law_ 1287 = .ok (.iaload, 1) := by decide +kernel
theorem dL_law__1288 : decode cL_law_ 1288 = .ok (.invokevirtual 172, 3) := by decide +kernel
theorem dL_law__1291 : decode cL_law_ 1291 = .ok (.aload_n 2, 1) := by decide +kernel
theorem dL_law__1292 : decode cL_law_ 1292 = .ok (.aload_n 0, 1) := by decide +kernel
theorem dL_law__1293 : decode cL_law_ 1293 = .ok (.iload 4, 2) := by decide +kernel
theorem dL_law__1295 : decode cL_law_ 1295 = .ok (.iconst 1, 1) := by decide +kernel
theorem dL_law__1296 : decode cL_law_ 1296 = .ok (.iadd, 1) := by decide +kernel
theorem dL_law__1297 : decode cL_law_ 1297 = .ok (.iaload, 1) := by decide +kernel
theorem dL_law__1298 : decode cL_law_ 1298 = .ok (.invokevirtual 175, 3) := by decide +kernel
theorem dL_law__1301 : decode cL_law_ 1301 = .ok (.if_icmp .eq 5, 3) := by decide +kernel
theorem dL_law__1304 : decode cL_law_ 1304 = .ok (.iconst 0, 1) := by decide +kernel
theorem dL_law__1305 : decode cL_law_ 1305 = .ok (.ireturn, 1) := by decide +kernel
theorem dL_law__1306 : decode cL_law_ 1306 = .ok (.iinc 4 6, 3) := by decide +kernel
theorem dL_law__1309 : decode cL_law_ 1309 = .ok (.goto (-1286), 3) := by decide +kernel
theorem dL_law__1312 : decode cL_law_ 1312 = .ok (.iconst 1, 1) := by decide +kernel
theorem dL_law__1313 : decode cL_law_ 1313 = .ok (.ireturn, 1) := by decide +kernel
theorem hd_X10_init : (yX10_init).cls = RX10 ∧ (yX10_init).cls ≠ "java/lang/invoke/MethodHandle" ∧ (yX10_init).cls ≠ "java/lang/invoke/VarHandle" ∧ (parseMethodDescriptor (yX10_init).desc).map (fun d => d.parameters.length) = some 0 := by decide +kernel
theorem hd_X11_init : (yX11_init).cls = RX11 ∧ (yX11_init).cls ≠ "java/lang/invoke/MethodHandle" ∧ (yX11_init).cls ≠ "java/lang/invoke/VarHandle" ∧ (parseMethodDescriptor (yX11_init).desc).map (fun d => d.parameters.length) = some 0 := by decide +kernel
theorem hd_X10_feed : (yX10_feed).cls = RX10 ∧ (yX10_feed).cls ≠ "java/lang/invoke/MethodHandle" ∧ (yX10_feed).cls ≠ "java/lang/invoke/VarHandle" ∧ (parseMethodDescriptor (yX10_feed).desc).map (fun d => d.parameters.length) = some 5 := by decide +kernel
theorem hd_X11_feed : (yX11_feed).cls = RX11 ∧ (yX11_feed).cls ≠ "java/lang/invoke/MethodHandle" ∧ (yX11_feed).cls ≠ "java/lang/invoke/VarHandle" ∧ (parseMethodDescriptor (yX11_feed).desc).map (fun d => d.parameters.length) = some 5 := by decide +kernel
theorem hd_X10_end : (yX10_end).cls = RX10 ∧ (yX10_end).cls ≠ "java/lang/invoke/MethodHandle" ∧ (yX10_end).cls ≠ "java/lang/invoke/VarHandle" ∧ (parseMethodDescriptor (yX10_end).desc).map (fun d => d.parameters.length) = some 1 := by decide +kernel
theorem hd_X11_end : (yX11_end).cls = RX11 ∧ (yX11_end).cls ≠ "java/lang/invoke/MethodHandle" ∧ (yX11_end).cls ≠ "java/lang/invoke/VarHandle" ∧ (parseMethodDescriptor (yX11_end).desc).map (fun d => d.parameters.length) = some 1 := by decide +kernel
theorem hd_X10_shore : (yX10_shore).cls = RX10 ∧ (yX10_shore).cls ≠ "java/lang/invoke/MethodHandle" ∧ (yX10_shore).cls ≠ "java/lang/invoke/VarHandle" ∧ (parseMethodDescriptor (yX10_shore).desc).map (fun d => d.parameters.length) = some 0 := by decide +kernel
theorem hd_X11_shore : (yX11_shore).cls = RX11 ∧ (yX11_shore).cls ≠ "java/lang/invoke/MethodHandle" ∧ (yX11_shore).cls ≠ "java/lang/invoke/VarHandle" ∧ (parseMethodDescriptor (yX11_shore).desc).map (fun d => d.parameters.length) = some 0 := by decide +kernel
theorem hd_X10_fault : (yX10_fault).cls = RX10 ∧ (yX10_fault).cls ≠ "java/lang/invoke/MethodHandle" ∧ (yX10_fault).cls ≠ "java/lang/invoke/VarHandle" ∧ (parseMethodDescriptor (yX10_fault).desc).map (fun d => d.parameters.length) = some 0 := by decide +kernel
theorem hd_X11_fault : (yX11_fault).cls = RX11 ∧ (yX11_fault).cls ≠ "java/lang/invoke/MethodHandle" ∧ (yX11_fault).cls ≠ "java/lang/invoke/VarHandle" ∧ (parseMethodDescriptor (yX11_fault).desc).map (fun d => d.parameters.length) = some 0 := by decide +kernel
theorem hd_X11_band : (yX11_band).cls = RX11 ∧ (yX11_band).cls ≠ "java/lang/invoke/MethodHandle" ∧ (yX11_band).cls ≠ "java/lang/invoke/VarHandle" ∧ (parseMethodDescriptor (yX11_band).desc).map (fun d => d.parameters.length) = some 2 := by decide +kernel
theorem hd_X11_thrown : (yX11_thrown).cls = RX11 ∧ (yX11_thrown).cls ≠ "java/lang/invoke/MethodHandle" ∧ (yX11_thrown).cls ≠ "java/lang/invoke/VarHandle" ∧ (parseMethodDescriptor (yX11_thrown).desc).map (fun d => d.parameters.length) = some 0 := by decide +kernel
theorem hd_X10_sign : (yX10_sign).cls = RX10 ∧ (yX10_sign).cls ≠ "java/lang/invoke/MethodHandle" ∧ (yX10_sign).cls ≠ "java/lang/invoke/VarHandle" ∧ (parseMethodDescriptor (yX10_sign).desc).map (fun d => d.parameters.length) = some 2 := by decide +kernel
theorem hd_X11_sign : (yX11_sign).cls = RX11 ∧ (yX11_sign).cls ≠ "java/lang/invoke/MethodHandle" ∧ (yX11_sign).cls ≠ "java/lang/invoke/VarHandle" ∧ (parseMethodDescriptor (yX11_sign).desc).map (fun d => d.parameters.length) = some 2 := by decide +kernel
theorem hd_X10_hand : (yX10_hand).cls = RX10 ∧ (yX10_hand).cls ≠ "java/lang/invoke/MethodHandle" ∧ (yX10_hand).cls ≠ "java/lang/invoke/VarHandle" ∧ (parseMethodDescriptor (yX10_hand).desc).map (fun d => d.parameters.length) = some 2 := by decide +kernel
theorem hd_X11_hand : (yX11_hand).cls = RX11 ∧ (yX11_hand).cls ≠ "java/lang/invoke/MethodHandle" ∧ (yX11_hand).cls ≠ "java/lang/invoke/VarHandle" ∧ (parseMethodDescriptor (yX11_hand).desc).map (fun d => d.parameters.length) = some 2 := by decide +kernel
theorem hd_X11_law : (yX11_law).cls = RX11 ∧ (yX11_law).cls ≠ "java/lang/invoke/MethodHandle" ∧ (yX11_law).cls ≠ "java/lang/invoke/VarHandle" ∧ (parseMethodDescriptor (yX11_law).desc).map (fun d => d.parameters.length) = some 2 := by decide +kernel
theorem hd_X10_lawAt : (yX10_lawAt).cls = RX10 ∧ (yX10_lawAt).cls ≠ "java/lang/invoke/MethodHandle" ∧ (yX10_lawAt).cls ≠ "java/lang/invoke/VarHandle" ∧ (parseMethodDescriptor (yX10_lawAt).desc).map (fun d => d.parameters.length) = some 2 := by decide +kernel
theorem hd_X11_lawAt : (yX11_lawAt).cls = RX11 ∧ (yX11_lawAt).cls ≠ "java/lang/invoke/MethodHandle" ∧ (yX11_lawAt).cls ≠ "java/lang/invoke/VarHandle" ∧ (parseMethodDescriptor (yX11_lawAt).desc).map (fun d => d.parameters.length) = some 2 := by decide +kernel
theorem hd_X10_writer : (yX10_writer).cls = RX10 ∧ (yX10_writer).cls ≠ "java/lang/invoke/MethodHandle" ∧ (yX10_writer).cls ≠ "java/lang/invoke/VarHandle" ∧ (parseMethodDescriptor (yX10_writer).desc).map (fun d => d.parameters.length) = some 2 := by decide +kernel
theorem hd_X11_writer : (yX11_writer).cls = RX11 ∧ (yX11_writer).cls ≠ "java/lang/invoke/MethodHandle" ∧ (yX11_writer).cls ≠ "java/lang/invoke/VarHandle" ∧ (parseMethodDescriptor (yX11_writer).desc).map (fun d => d.parameters.length) = some 2 := by decide +kernel
theorem hd_X10_now : (yX10_now).cls = RX10 ∧ (yX10_now).cls ≠ "java/lang/invoke/MethodHandle" ∧ (yX10_now).cls ≠ "java/lang/invoke/VarHandle" ∧ (parseMethodDescriptor (yX10_now).desc).map (fun d => d.parameters.length) = some 1 := by decide +kernel
theorem hd_X11_now : (yX11_now).cls = RX11 ∧ (yX11_now).cls ≠ "java/lang/invoke/MethodHandle" ∧ (yX11_now).cls ≠ "java/lang/invoke/VarHandle" ∧ (parseMethodDescriptor (yX11_now).desc).map (fun d => d.parameters.length) = some 1 := by decide +kernel
theorem hd_X10_write : (yX10_write).cls = RX10 ∧ (yX10_write).cls ≠ "java/lang/invoke/MethodHandle" ∧ (yX10_write).cls ≠ "java/lang/invoke/VarHandle" ∧ (parseMethodDescriptor (yX10_write).desc).map (fun d => d.parameters.length) = some 4 := by decide +kernel
theorem hd_X11_write : (yX11_write).cls = RX11 ∧ (yX11_write).cls ≠ "java/lang/invoke/MethodHandle" ∧ (yX11_write).cls ≠ "java/lang/invoke/VarHandle" ∧ (parseMethodDescriptor (yX11_write).desc).map (fun d => d.parameters.length) = some 4 := by decide +kernel
theorem hd_X10_tread : (yX10_tread).cls = RX10 ∧ (yX10_tread).cls ≠ "java/lang/invoke/MethodHandle" ∧ (yX10_tread).cls ≠ "java/lang/invoke/VarHandle" ∧ (parseMethodDescriptor (yX10_tread).desc).map (fun d => d.parameters.length) = some 2 := by decide +kernel
theorem hd_X11_tread : (yX11_tread).cls = RX11 ∧ (yX11_tread).cls ≠ "java/lang/invoke/MethodHandle" ∧ (yX11_tread).cls ≠ "java/lang/invoke/VarHandle" ∧ (parseMethodDescriptor (yX11_tread).desc).map (fun d => d.parameters.length) = some 2 := by decide +kernel
theorem hd_X10_hours : (yX10_hours).cls = RX10 ∧ (yX10_hours).cls ≠ "java/lang/invoke/MethodHandle" ∧ (yX10_hours).cls ≠ "java/lang/invoke/VarHandle" ∧ (parseMethodDescriptor (yX10_hours).desc).map (fun d => d.parameters.length) = some 1 := by decide +kernel
theorem hd_X11_hours : (yX11_hours).cls = RX11 ∧ (yX11_hours).cls ≠ "java/lang/invoke/MethodHandle" ∧ (yX11_hours).cls ≠ "java/lang/invoke/VarHandle" ∧ (parseMethodDescriptor (yX11_hours).desc).map (fun d => d.parameters.length) = some 1 := by decide +kernel
theorem hd_X10_undo : (yX10_undo).cls = RX10 ∧ (yX10_undo).cls ≠ "java/lang/invoke/MethodHandle" ∧ (yX10_undo).cls ≠ "java/lang/invoke/VarHandle" ∧ (parseMethodDescriptor (yX10_undo).desc).map (fun d => d.parameters.length) = some 0 := by decide +kernel
theorem hd_X11_undo : (yX11_undo).cls = RX11 ∧ (yX11_undo).cls ≠ "java/lang/invoke/MethodHandle" ∧ (yX11_undo).cls ≠ "java/lang/invoke/VarHandle" ∧ (parseMethodDescriptor (yX11_undo).desc).map (fun d => d.parameters.length) = some 0 := by decide +kernel
theorem hd_X10_fits : (yX10_fits).cls = RX10 ∧ (yX10_fits).cls ≠ "java/lang/invoke/MethodHandle" ∧ (yX10_fits).cls ≠ "java/lang/invoke/VarHandle" ∧ (parseMethodDescriptor (yX10_fits).desc).map (fun d => d.parameters.length) = some 1 := by decide +kernel
theorem hd_X11_fits : (yX11_fits).cls = RX11 ∧ (yX11_fits).cls ≠ "java/lang/invoke/MethodHandle" ∧ (yX11_fits).cls ≠ "java/lang/invoke/VarHandle" ∧ (parseMethodDescriptor (yX11_fits).desc).map (fun d => d.parameters.length) = some 1 := by decide +kernel
theorem hd_X10_ask : (yX10_ask).cls = RX10 ∧ (yX10_ask).cls ≠ "java/lang/invoke/MethodHandle" ∧ (yX10_ask).cls ≠ "java/lang/invoke/VarHandle" ∧ (parseMethodDescriptor (yX10_ask).desc).map (fun d => d.parameters.length) = some 1 := by decide +kernel
theorem hd_X11_ask : (yX11_ask).cls = RX11 ∧ (yX11_ask).cls ≠ "java/lang/invoke/MethodHandle" ∧ (yX11_ask).cls ≠ "java/lang/invoke/VarHandle" ∧ (parseMethodDescriptor (yX11_ask).desc).map (fun d => d.parameters.length) = some 1 := by decide +kernel
theorem hd_X10_dry : (yX10_dry).cls = RX10 ∧ (yX10_dry).cls ≠ "java/lang/invoke/MethodHandle" ∧ (yX10_dry).cls ≠ "java/lang/invoke/VarHandle" ∧ (parseMethodDescriptor (yX10_dry).desc).map (fun d => d.parameters.length) = some 1 := by decide +kernel
theorem hd_X11_dry : (yX11_dry).cls = RX11 ∧ (yX11_dry).cls ≠ "java/lang/invoke/MethodHandle" ∧ (yX11_dry).cls ≠ "java/lang/invoke/VarHandle" ∧ (parseMethodDescriptor (yX11_dry).desc).map (fun d => d.parameters.length) = some 1 := by decide +kernel
theorem hd_X10_keep : (yX10_keep).cls = RX10 ∧ (yX10_keep).cls ≠ "java/lang/invoke/MethodHandle" ∧ (yX10_keep).cls ≠ "java/lang/invoke/VarHandle" ∧ (parseMethodDescriptor (yX10_keep).desc).map (fun d => d.parameters.length) = some 2 := by decide +kernel
theorem hd_X11_keep : (yX11_keep).cls = RX11 ∧ (yX11_keep).cls ≠ "java/lang/invoke/MethodHandle" ∧ (yX11_keep).cls ≠ "java/lang/invoke/VarHandle" ∧ (parseMethodDescriptor (yX11_keep).desc).map (fun d => d.parameters.length) = some 2 := by decide +kernel
theorem hd_X10_mend : (yX10_mend).cls = RX10 ∧ (yX10_mend).cls ≠ "java/lang/invoke/MethodHandle" ∧ (yX10_mend).cls ≠ "java/lang/invoke/VarHandle" ∧ (parseMethodDescriptor (yX10_mend).desc).map (fun d => d.parameters.length) = some 1 := by decide +kernel
theorem hd_X11_mend : (yX11_mend).cls = RX11 ∧ (yX11_mend).cls ≠ "java/lang/invoke/MethodHandle" ∧ (yX11_mend).cls ≠ "java/lang/invoke/VarHandle" ∧ (parseMethodDescriptor (yX11_mend).desc).map (fun d => d.parameters.length) = some 1 := by decide +kernel
theorem hd_X10_mendAt : (yX10_mendAt).cls = RX10 ∧ (yX10_mendAt).cls ≠ "java/lang/invoke/MethodHandle" ∧ (yX10_mendAt).cls ≠ "java/lang/invoke/VarHandle" ∧ (parseMethodDescriptor (yX10_mendAt).desc).map (fun d => d.parameters.length) = some 1 := by decide +kernel
theorem hd_X11_mendAt : (yX11_mendAt).cls = RX11 ∧ (yX11_mendAt).cls ≠ "java/lang/invoke/MethodHandle" ∧ (yX11_mendAt).cls ≠ "java/lang/invoke/VarHandle" ∧ (parseMethodDescriptor (yX11_mendAt).desc).map (fun d => d.parameters.length) = some 1 := by decide +kernel
theorem hd_X10_room : (yX10_room).cls = RX10 ∧ (yX10_room).cls ≠ "java/lang/invoke/MethodHandle" ∧ (yX10_room).cls ≠ "java/lang/invoke/VarHandle" ∧ (parseMethodDescriptor (yX10_room).desc).map (fun d => d.parameters.length) = some 0 := by decide +kernel
theorem hd_X11_room : (yX11_room).cls = RX11 ∧ (yX11_room).cls ≠ "java/lang/invoke/MethodHandle" ∧ (yX11_room).cls ≠ "java/lang/invoke/VarHandle" ∧ (parseMethodDescriptor (yX11_room).desc).map (fun d => d.parameters.length) = some 0 := by decide +kernel
theorem hd_X10_roomOf : (yX10_roomOf).cls = RX10 ∧ (yX10_roomOf).cls ≠ "java/lang/invoke/MethodHandle" ∧ (yX10_roomOf).cls ≠ "java/lang/invoke/VarHandle" ∧ (parseMethodDescriptor (yX10_roomOf).desc).map (fun d => d.parameters.length) = some 1 := by decide +kernel
theorem hd_X11_roomOf : (yX11_roomOf).cls = RX11 ∧ (yX11_roomOf).cls ≠ "java/lang/invoke/MethodHandle" ∧ (yX11_roomOf).cls ≠ "java/lang/invoke/VarHandle" ∧ (parseMethodDescriptor (yX11_roomOf).desc).map (fun d => d.parameters.length) = some 1 := by decide +kernel
theorem hd_X10_bears : (yX10_bears).cls = RX10 ∧ (yX10_bears).cls ≠ "java/lang/invoke/MethodHandle" ∧ (yX10_bears).cls ≠ "java/lang/invoke/VarHandle" ∧ (parseMethodDescriptor (yX10_bears).desc).map (fun d => d.parameters.length) = some 1 := by decide +kernel
theorem hd_X11_bears : (yX11_bears).cls = RX11 ∧ (yX11_bears).cls ≠ "java/lang/invoke/MethodHandle" ∧ (yX11_bears).cls ≠ "java/lang/invoke/VarHandle" ∧ (parseMethodDescriptor (yX11_bears).desc).map (fun d => d.parameters.length) = some 1 := by decide +kernel
theorem hd_X10_fullest : (yX10_fullest).cls = RX10 ∧ (yX10_fullest).cls ≠ "java/lang/invoke/MethodHandle" ∧ (yX10_fullest).cls ≠ "java/lang/invoke/VarHandle" ∧ (parseMethodDescriptor (yX10_fullest).desc).map (fun d => d.parameters.length) = some 0 := by decide +kernel
theorem hd_X11_fullest : (yX11_fullest).cls = RX11 ∧ (yX11_fullest).cls ≠ "java/lang/invoke/MethodHandle" ∧ (yX11_fullest).cls ≠ "java/lang/invoke/VarHandle" ∧ (parseMethodDescriptor (yX11_fullest).desc).map (fun d => d.parameters.length) = some 0 := by decide +kernel
theorem hd_X10_row : (yX10_row).cls = RX10 ∧ (yX10_row).cls ≠ "java/lang/invoke/MethodHandle" ∧ (yX10_row).cls ≠ "java/lang/invoke/VarHandle" ∧ (parseMethodDescriptor (yX10_row).desc).map (fun d => d.parameters.length) = some 1 := by decide +kernel
theorem hd_X11_row : (yX11_row).cls = RX11 ∧ (yX11_row).cls ≠ "java/lang/invoke/MethodHandle" ∧ (yX11_row).cls ≠ "java/lang/invoke/VarHandle" ∧ (parseMethodDescriptor (yX11_row).desc).map (fun d => d.parameters.length) = some 1 := by decide +kernel
theorem hd_X10_byteAt : (yX10_byteAt).cls = RX10 ∧ (yX10_byteAt).cls ≠ "java/lang/invoke/MethodHandle" ∧ (yX10_byteAt).cls ≠ "java/lang/invoke/VarHandle" ∧ (parseMethodDescriptor (yX10_byteAt).desc).map (fun d => d.parameters.length) = some 1 := by decide +kernel
theorem hd_X11_byteAt : (yX11_byteAt).cls = RX11 ∧ (yX11_byteAt).cls ≠ "java/lang/invoke/MethodHandle" ∧ (yX11_byteAt).cls ≠ "java/lang/invoke/VarHandle" ∧ (parseMethodDescriptor (yX11_byteAt).desc).map (fun d => d.parameters.length) = some 1 := by decide +kernel
theorem hd_X10_drawn : (yX10_drawn).cls = RX10 ∧ (yX10_drawn).cls ≠ "java/lang/invoke/MethodHandle" ∧ (yX10_drawn).cls ≠ "java/lang/invoke/VarHandle" ∧ (parseMethodDescriptor (yX10_drawn).desc).map (fun d => d.parameters.length) = some 2 := by decide +kernel
theorem hd_X11_drawn : (yX11_drawn).cls = RX11 ∧ (yX11_drawn).cls ≠ "java/lang/invoke/MethodHandle" ∧ (yX11_drawn).cls ≠ "java/lang/invoke/VarHandle" ∧ (parseMethodDescriptor (yX11_drawn).desc).map (fun d => d.parameters.length) = some 2 := by decide +kernel
theorem hd_X10_odds : (yX10_odds).cls = RX10 ∧ (yX10_odds).cls ≠ "java/lang/invoke/MethodHandle" ∧ (yX10_odds).cls ≠ "java/lang/invoke/VarHandle" ∧ (parseMethodDescriptor (yX10_odds).desc).map (fun d => d.parameters.length) = some 3 := by decide +kernel
theorem hd_X11_odds : (yX11_odds).cls = RX11 ∧ (yX11_odds).cls ≠ "java/lang/invoke/MethodHandle" ∧ (yX11_odds).cls ≠ "java/lang/invoke/VarHandle" ∧ (parseMethodDescriptor (yX11_odds).desc).map (fun d => d.parameters.length) = some 3 := by decide +kernel
theorem hd_X10_book : (yX10_book).cls = RX10 ∧ (yX10_book).cls ≠ "java/lang/invoke/MethodHandle" ∧ (yX10_book).cls ≠ "java/lang/invoke/VarHandle" ∧ (parseMethodDescriptor (yX10_book).desc).map (fun d => d.parameters.length) = some 1 := by decide +kernel
theorem hd_X11_book : (yX11_book).cls = RX11 ∧ (yX11_book).cls ≠ "java/lang/invoke/MethodHandle" ∧ (yX11_book).cls ≠ "java/lang/invoke/VarHandle" ∧ (parseMethodDescriptor (yX11_book).desc).map (fun d => d.parameters.length) = some 1 := by decide +kernel
theorem hd_X10_told : (yX10_told).cls = RX10 ∧ (yX10_told).cls ≠ "java/lang/invoke/MethodHandle" ∧ (yX10_told).cls ≠ "java/lang/invoke/VarHandle" ∧ (parseMethodDescriptor (yX10_told).desc).map (fun d => d.parameters.length) = some 1 := by decide +kernel
theorem hd_X11_told : (yX11_told).cls = RX11 ∧ (yX11_told).cls ≠ "java/lang/invoke/MethodHandle" ∧ (yX11_told).cls ≠ "java/lang/invoke/VarHandle" ∧ (parseMethodDescriptor (yX11_told).desc).map (fun d => d.parameters.length) = some 1 := by decide +kernel
theorem hd_X10_sentence : (yX10_sentence).cls = RX10 ∧ (yX10_sentence).cls ≠ "java/lang/invoke/MethodHandle" ∧ (yX10_sentence).cls ≠ "java/lang/invoke/VarHandle" ∧ (parseMethodDescriptor (yX10_sentence).desc).map (fun d => d.parameters.length) = some 0 := by decide +kernel
theorem hd_X11_sentence : (yX11_sentence).cls = RX11 ∧ (yX11_sentence).cls ≠ "java/lang/invoke/MethodHandle" ∧ (yX11_sentence).cls ≠ "java/lang/invoke/VarHandle" ∧ (parseMethodDescriptor (yX11_sentence).desc).map (fun d => d.parameters.length) = some 0 := by decide +kernel
theorem hd_X10_said : (yX10_said).cls = RX10 ∧ (yX10_said).cls ≠ "java/lang/invoke/MethodHandle" ∧ (yX10_said).cls ≠ "java/lang/invoke/VarHandle" ∧ (parseMethodDescriptor (yX10_said).desc).map (fun d => d.parameters.length) = some 1 := by decide +kernel
theorem hd_X11_said : (yX11_said).cls = RX11 ∧ (yX11_said).cls ≠ "java/lang/invoke/MethodHandle" ∧ (yX11_said).cls ≠ "java/lang/invoke/VarHandle" ∧ (parseMethodDescriptor (yX11_said).desc).map (fun d => d.parameters.length) = some 1 := by decide +kernel
theorem hd_X10_image : (yX10_image).cls = RX10 ∧ (yX10_image).cls ≠ "java/lang/invoke/MethodHandle" ∧ (yX10_image).cls ≠ "java/lang/invoke/VarHandle" ∧ (parseMethodDescriptor (yX10_image).desc).map (fun d => d.parameters.length) = some 1 := by decide +kernel
theorem hd_X11_image : (yX11_image).cls = RX11 ∧ (yX11_image).cls ≠ "java/lang/invoke/MethodHandle" ∧ (yX11_image).cls ≠ "java/lang/invoke/VarHandle" ∧ (parseMethodDescriptor (yX11_image).desc).map (fun d => d.parameters.length) = some 1 := by decide +kernel
theorem hd_X10_restore : (yX10_restore).cls = RX10 ∧ (yX10_restore).cls ≠ "java/lang/invoke/MethodHandle" ∧ (yX10_restore).cls ≠ "java/lang/invoke/VarHandle" ∧ (parseMethodDescriptor (yX10_restore).desc).map (fun d => d.parameters.length) = some 1 := by decide +kernel
theorem hd_X11_restore : (yX11_restore).cls = RX11 ∧ (yX11_restore).cls ≠ "java/lang/invoke/MethodHandle" ∧ (yX11_restore).cls ≠ "java/lang/invoke/VarHandle" ∧ (parseMethodDescriptor (yX11_restore).desc).map (fun d => d.parameters.length) = some 1 := by decide +kernel
theorem hd_X10_count : (yX10_count).cls = RX10 ∧ (yX10_count).cls ≠ "java/lang/invoke/MethodHandle" ∧ (yX10_count).cls ≠ "java/lang/invoke/VarHandle" ∧ (parseMethodDescriptor (yX10_count).desc).map (fun d => d.parameters.length) = some 1 := by decide +kernel
theorem hd_X11_count : (yX11_count).cls = RX11 ∧ (yX11_count).cls ≠ "java/lang/invoke/MethodHandle" ∧ (yX11_count).cls ≠ "java/lang/invoke/VarHandle" ∧ (parseMethodDescriptor (yX11_count).desc).map (fun d => d.parameters.length) = some 1 := by decide +kernel
def fL_law_L (N : Nat) (xs : Nat → Int32) (L : Nat) (v1 v2 v3 : Nat) : Nat → Int32 → Mem → Option (Int32 × Mem)
  | 0, _, _ => none
  | n + 1, v4, M => (if ((Int32.ofNat L) - 6) < v4 then some (1, M) else ((sc xs L v4).bind fun x36 => (if (x36 &&& 63) = 0 then ((sc xs L (v4 + 1)).bind fun x206 => ((sc xs L (v4 + 2)).bind fun x212 => ((sc xs L (v4 + 3)).bind fun x218 => ((sc xs L (v4 + 4)).bind fun x224 => ((sc xs L (v4 + 5)).bind fun x230 => (if mK M v1 = 11 then ((fX10_feed N v1 x206 x212 x218 x224 x230 M).bind fun (x231, M231) => ((sc xs L (v4 + 1)).bind fun x240 => ((sc xs L (v4 + 2)).bind fun x246 => ((sc xs L (v4 + 3)).bind fun x252 => ((sc xs L (v4 + 4)).bind fun x258 => ((sc xs L (v4 + 5)).bind fun x264 => (if mK M231 v2 = 12 then ((fX11_feed N v2 x240 x246 x252 x258 x264 M231).bind fun (x265, M265) => (if x231 = x265 then fL_law_L N xs L v1 v2 v3 n (v4 + 6) M265 else some (0, M265))) else none))))))) else none)))))) else (if (x36 &&& 63) = 1 then ((sc xs L (v4 + 1)).bind fun x279 => (if mK M v1 = 11 then ((fX10_end N v1 x279 M).bind fun (x280, M280) => ((sc xs L (v4 + 1)).bind fun x289 => (if mK M280 v2 = 12 then ((fX11_end N v2 x289 M280).bind fun (x290, M290) => (if x280 = x290 then fL_law_L N xs L v1 v2 v3 n (v4 + 6) M290 else some (0, M290))) else none))) else none)) else (if (x36 &&& 63) = 2 then (if mK M v1 = 11 then ((fX10_shore N v1 M).bind fun (x299, M299) => (if mK M299 v2 = 12 then ((fX11_shore N v2 M299).bind fun (x303, M303) => (if x299 = x303 then fL_law_L N xs L v1 v2 v3 n (v4 + 6) M303 else some (0, M303))) else none)) else none) else (if (x36 &&& 63) = 3 then (if mK M v1 = 11 then ((fX10_fault N v1 M).bind fun (x312, M312) => (if mK M312 v2 = 12 then ((fX11_fault N v2 M312).bind fun (x316, M316) => (if x312 = x316 then fL_law_L N xs L v1 v2 v3 n (v4 + 6) M316 else some (0, M316))) else none)) else none) else (if (x36 &&& 63) = 4 then ((sc xs L (v4 + 1)).bind fun x330 => ((sc xs L (v4 + 2)).bind fun x336 => ((fL_band N v1 x330 x336 v3 M).bind fun (x338, M338) => ((sc xs L (v4 + 1)).bind fun x349 => ((sc xs L (v4 + 2)).bind fun x355 => (if mK M338 v2 = 12 then ((fX11_band N v2 x349 x355 M338).bind fun (x356, M356) => (if mK M356 v2 = 12 then ((fX11_thrown N v2 M356).bind fun (x362, M362) => (if x362 = x338 then (if x338 = 0 then ((aL M362 v3 0).bind fun x379 => (if (lg_cmp x379 (Int32.toInt64 x356)) = 0 then fL_law_L N xs L v1 v2 v3 n (v4 + 6) M362 else some (0, M362))) else fL_law_L N xs L v1 v2 v3 n (v4 + 6) M362) else some (0, M362))) else none)) else none)))))) else (if (x36 &&& 63) = 5 then ((sc xs L (v4 + 1)).bind fun x398 => ((sc xs L (v4 + 2)).bind fun x404 => (if mK M v1 = 11 then ((fX10_sign N v1 x398 x404 M).bind fun (x405, M405) => ((sc xs L (v4 + 1)).bind fun x414 => ((sc xs L (v4 + 2)).bind fun x420 => (if mK M405 v2 = 12 then ((fX11_sign N v2 x414 x420 M405).bind fun (x421, M421) => (if x405 = x421 then fL_law_L N xs L v1 v2 v3 n (v4 + 6) M421 else some (0, M421))) else none)))) else none))) else (if (x36 &&& 63) = 6 then ((sc xs L (v4 + 1)).bind fun x435 => ((sc xs L (v4 + 2)).bind fun x441 => (if mK M v1 = 11 then ((fX10_hand N v1 x435 x441 M).bind fun (x442, M442) => ((sc xs L (v4 + 1)).bind fun x451 => ((sc xs L (v4 + 2)).bind fun x457 => (if mK M442 v2 = 12 then ((fX11_hand N v2 x451 x457 M442).bind fun (x458, M458) => (if x442 = x458 then fL_law_L N xs L v1 v2 v3 n (v4 + 6) M458 else some (0, M458))) else none)))) else none))) else (if (x36 &&& 63) = 7 then ((sc xs L (v4 + 1)).bind fun x472 => ((sc xs L (v4 + 2)).bind fun x478 => ((fL_law N v1 x472 x478 v3 M).bind fun (x480, M480) => ((sc xs L (v4 + 1)).bind fun x491 => ((sc xs L (v4 + 2)).bind fun x497 => (if mK M480 v2 = 12 then ((fX11_law N v2 x491 x497 M480).bind fun (x498, M498) => (if mK M498 v2 = 12 then ((fX11_thrown N v2 M498).bind fun (x504, M504) => (if x504 = x480 then (if x480 = 0 then ((aL M504 v3 0).bind fun x521 => (if (lg_cmp x521 (Int32.toInt64 x498)) = 0 then fL_law_L N xs L v1 v2 v3 n (v4 + 6) M504 else some (0, M504))) else fL_law_L N xs L v1 v2 v3 n (v4 + 6) M504) else some (0, M504))) else none)) else none)))))) else (if (x36 &&& 63) = 8 then ((sc xs L (v4 + 1)).bind fun x540 => ((sc xs L (v4 + 2)).bind fun x546 => (if mK M v1 = 11 then ((fX10_lawAt N v1 x540 x546 M).bind fun (x547, M547) => ((sc xs L (v4 + 1)).bind fun x556 => ((sc xs L (v4 + 2)).bind fun x562 => (if mK M547 v2 = 12 then ((fX11_lawAt N v2 x556 x562 M547).bind fun (x563, M563) => (if x547 = x563 then fL_law_L N xs L v1 v2 v3 n (v4 + 6) M563 else some (0, M563))) else none)))) else none))) else (if (x36 &&& 63) = 9 then ((sc xs L (v4 + 1)).bind fun x577 => ((sc xs L (v4 + 2)).bind fun x583 => (if mK M v1 = 11 then ((fX10_writer N v1 x577 x583 M).bind fun (x584, M584) => ((sc xs L (v4 + 1)).bind fun x593 => ((sc xs L (v4 + 2)).bind fun x599 => (if mK M584 v2 = 12 then ((fX11_writer N v2 x593 x599 M584).bind fun (x600, M600) => (if x584 = x600 then fL_law_L N xs L v1 v2 v3 n (v4 + 6) M600 else some (0, M600))) else none)))) else none))) else (if (x36 &&& 63) = 10 then ((sc xs L (v4 + 1)).bind fun x614 => (if mK M v1 = 11 then ((fX10_now N v1 x614 M).bind fun (x615, M615) => ((sc xs L (v4 + 1)).bind fun x624 => (if mK M615 v2 = 12 then ((fX11_now N v2 x624 M615).bind fun (x625, M625) => (if x615 = x625 then fL_law_L N xs L v1 v2 v3 n (v4 + 6) M625 else some (0, M625))) else none))) else none)) else (if (x36 &&& 63) = 11 then ((sc xs L (v4 + 1)).bind fun x639 => ((sc xs L (v4 + 2)).bind fun x645 => ((sc xs L (v4 + 3)).bind fun x651 => ((sc xs L (v4 + 4)).bind fun x657 => (if mK M v1 = 11 then ((fX10_write N v1 x639 x645 x651 x657 M).bind fun (x658, M658) => ((sc xs L (v4 + 1)).bind fun x667 => ((sc xs L (v4 + 2)).bind fun x673 => ((sc xs L (v4 + 3)).bind fun x679 => ((sc xs L (v4 + 4)).bind fun x685 => (if mK M658 v2 = 12 then ((fX11_write N v2 x667 x673 x679 x685 M658).bind fun (x686, M686) => (if x658 = x686 then fL_law_L N xs L v1 v2 v3 n (v4 + 6) M686 else some (0, M686))) else none)))))) else none))))) else (if (x36 &&& 63) = 12 then ((sc xs L (v4 + 1)).bind fun x700 => ((sc xs L (v4 + 2)).bind fun x706 => (if mK M v1 = 11 then ((fX10_tread N v1 x700 x706 M).bind fun (x707, M707) => ((sc xs L (v4 + 1)).bind fun x716 => ((sc xs L (v4 + 2)).bind fun x722 => (if mK M707 v2 = 12 then ((fX11_tread N v2 x716 x722 M707).bind fun (x723, M723) => (if x707 = x723 then fL_law_L N xs L v1 v2 v3 n (v4 + 6) M723 else some (0, M723))) else none)))) else none))) else (if (x36 &&& 63) = 13 then ((sc xs L (v4 + 1)).bind fun x737 => (if mK M v1 = 11 then ((fX10_hours N v1 x737 M).bind fun (x738, M738) => ((sc xs L (v4 + 1)).bind fun x747 => (if mK M738 v2 = 12 then ((fX11_hours N v2 x747 M738).bind fun (x748, M748) => (if x738 = x748 then fL_law_L N xs L v1 v2 v3 n (v4 + 6) M748 else some (0, M748))) else none))) else none)) else (if (x36 &&& 63) = 14 then (if mK M v1 = 11 then ((fX10_undo N v1 M).bind fun (x757, M757) => (if mK M757 v2 = 12 then ((fX11_undo N v2 M757).bind fun (x761, M761) => (if x757 = x761 then fL_law_L N xs L v1 v2 v3 n (v4 + 6) M761 else some (0, M761))) else none)) else none) else (if (x36 &&& 63) = 15 then ((sc xs L (v4 + 1)).bind fun x775 => (if mK M v1 = 11 then ((fX10_fits N v1 x775 M).bind fun (x776, M776) => ((sc xs L (v4 + 1)).bind fun x785 => (if mK M776 v2 = 12 then ((fX11_fits N v2 x785 M776).bind fun (x786, M786) => (if x776 = x786 then fL_law_L N xs L v1 v2 v3 n (v4 + 6) M786 else some (0, M786))) else none))) else none)) else (if (x36 &&& 63) = 16 then ((sc xs L (v4 + 1)).bind fun x800 => (if mK M v1 = 11 then ((fX10_ask N v1 x800 M).bind fun (x801, M801) => ((sc xs L (v4 + 1)).bind fun x810 => (if mK M801 v2 = 12 then ((fX11_ask N v2 x810 M801).bind fun (x811, M811) => (if x801 = x811 then fL_law_L N xs L v1 v2 v3 n (v4 + 6) M811 else some (0, M811))) else none))) else none)) else (if (x36 &&& 63) = 17 then ((sc xs L (v4 + 1)).bind fun x825 => (if mK M v1 = 11 then ((fX10_dry N v1 x825 M).bind fun (x826, M826) => ((sc xs L (v4 + 1)).bind fun x835 => (if mK M826 v2 = 12 then ((fX11_dry N v2 x835 M826).bind fun (x836, M836) => (if x826 = x836 then fL_law_L N xs L v1 v2 v3 n (v4 + 6) M836 else some (0, M836))) else none))) else none)) else (if (x36 &&& 63) = 18 then ((sc xs L (v4 + 1)).bind fun x850 => ((sc xs L (v4 + 2)).bind fun x856 => (if mK M v1 = 11 then ((fX10_keep N v1 x850 x856 M).bind fun (x857, M857) => ((sc xs L (v4 + 1)).bind fun x866 => ((sc xs L (v4 + 2)).bind fun x872 => (if mK M857 v2 = 12 then ((fX11_keep N v2 x866 x872 M857).bind fun (x873, M873) => (if x857 = x873 then fL_law_L N xs L v1 v2 v3 n (v4 + 6) M873 else some (0, M873))) else none)))) else none))) else (if (x36 &&& 63) = 19 then ((sc xs L (v4 + 1)).bind fun x887 => (if mK M v1 = 11 then ((fX10_mend N v1 x887 M).bind fun (x888, M888) => ((sc xs L (v4 + 1)).bind fun x897 => (if mK M888 v2 = 12 then ((fX11_mend N v2 x897 M888).bind fun (x898, M898) => (if x888 = x898 then fL_law_L N xs L v1 v2 v3 n (v4 + 6) M898 else some (0, M898))) else none))) else none)) else (if (x36 &&& 63) = 20 then ((sc xs L (v4 + 1)).bind fun x912 => (if mK M v1 = 11 then ((fX10_mendAt N v1 x912 M).bind fun (x913, M913) => ((sc xs L (v4 + 1)).bind fun x922 => (if mK M913 v2 = 12 then ((fX11_mendAt N v2 x922 M913).bind fun (x923, M923) => (if x913 = x923 then fL_law_L N xs L v1 v2 v3 n (v4 + 6) M923 else some (0, M923))) else none))) else none)) else (if (x36 &&& 63) = 21 then (if mK M v1 = 11 then ((fX10_room N v1 M).bind fun (x932, M932) => (if mK M932 v2 = 12 then ((fX11_room N v2 M932).bind fun (x936, M936) => (if x932 = x936 then fL_law_L N xs L v1 v2 v3 n (v4 + 6) M936 else some (0, M936))) else none)) else none) else (if (x36 &&& 63) = 22 then ((sc xs L (v4 + 1)).bind fun x950 => (if mK M v1 = 11 then ((fX10_roomOf N v1 x950 M).bind fun (x951, M951) => ((sc xs L (v4 + 1)).bind fun x960 => (if mK M951 v2 = 12 then ((fX11_roomOf N v2 x960 M951).bind fun (x961, M961) => (if x951 = x961 then fL_law_L N xs L v1 v2 v3 n (v4 + 6) M961 else some (0, M961))) else none))) else none)) else (if (x36 &&& 63) = 23 then ((sc xs L (v4 + 1)).bind fun x975 => (if mK M v1 = 11 then ((fX10_bears N v1 x975 M).bind fun (x976, M976) => ((sc xs L (v4 + 1)).bind fun x985 => (if mK M976 v2 = 12 then ((fX11_bears N v2 x985 M976).bind fun (x986, M986) => (if x976 = x986 then fL_law_L N xs L v1 v2 v3 n (v4 + 6) M986 else some (0, M986))) else none))) else none)) else (if (x36 &&& 63) = 24 then (if mK M v1 = 11 then ((fX10_fullest N v1 M).bind fun (x995, M995) => (if mK M995 v2 = 12 then ((fX11_fullest N v2 M995).bind fun (x999, M999) => (if x995 = x999 then fL_law_L N xs L v1 v2 v3 n (v4 + 6) M999 else some (0, M999))) else none)) else none) else (if (x36 &&& 63) = 25 then ((sc xs L (v4 + 1)).bind fun x1013 => (if mK M v1 = 11 then ((fX10_row N v1 x1013 M).bind fun (x1014, M1014) => ((sc xs L (v4 + 1)).bind fun x1023 => (if mK M1014 v2 = 12 then ((fX11_row N v2 x1023 M1014).bind fun (x1024, M1024) => (if x1014 = x1024 then fL_law_L N xs L v1 v2 v3 n (v4 + 6) M1024 else some (0, M1024))) else none))) else none)) else (if (x36 &&& 63) = 26 then ((sc xs L (v4 + 1)).bind fun x1038 => (if mK M v1 = 11 then ((fX10_byteAt N v1 x1038 M).bind fun (x1039, M1039) => ((sc xs L (v4 + 1)).bind fun x1048 => (if mK M1039 v2 = 12 then ((fX11_byteAt N v2 x1048 M1039).bind fun (x1049, M1049) => (if x1039 = x1049 then fL_law_L N xs L v1 v2 v3 n (v4 + 6) M1049 else some (0, M1049))) else none))) else none)) else (if (x36 &&& 63) = 27 then ((sc xs L (v4 + 1)).bind fun x1063 => ((sc xs L (v4 + 2)).bind fun x1069 => (if mK M v1 = 11 then ((fX10_drawn N v1 x1063 x1069 M).bind fun (x1070, M1070) => ((sc xs L (v4 + 1)).bind fun x1079 => ((sc xs L (v4 + 2)).bind fun x1085 => (if mK M1070 v2 = 12 then ((fX11_drawn N v2 x1079 x1085 M1070).bind fun (x1086, M1086) => (if x1070 = x1086 then fL_law_L N xs L v1 v2 v3 n (v4 + 6) M1086 else some (0, M1086))) else none)))) else none))) else (if (x36 &&& 63) = 28 then ((sc xs L (v4 + 1)).bind fun x1100 => ((sc xs L (v4 + 2)).bind fun x1106 => ((sc xs L (v4 + 3)).bind fun x1112 => (if mK M v1 = 11 then ((fX10_odds N v1 x1100 x1106 x1112 M).bind fun (x1113, M1113) => ((sc xs L (v4 + 1)).bind fun x1122 => ((sc xs L (v4 + 2)).bind fun x1128 => ((sc xs L (v4 + 3)).bind fun x1134 => (if mK M1113 v2 = 12 then ((fX11_odds N v2 x1122 x1128 x1134 M1113).bind fun (x1135, M1135) => (if x1113 = x1135 then fL_law_L N xs L v1 v2 v3 n (v4 + 6) M1135 else some (0, M1135))) else none))))) else none)))) else (if (x36 &&& 63) = 29 then ((sc xs L (v4 + 1)).bind fun x1149 => (if mK M v1 = 11 then ((fX10_book N v1 x1149 M).bind fun (x1150, M1150) => ((sc xs L (v4 + 1)).bind fun x1159 => (if mK M1150 v2 = 12 then ((fX11_book N v2 x1159 M1150).bind fun (x1160, M1160) => (if x1150 = x1160 then fL_law_L N xs L v1 v2 v3 n (v4 + 6) M1160 else some (0, M1160))) else none))) else none)) else (if (x36 &&& 63) = 30 then ((sc xs L (v4 + 1)).bind fun x1174 => (if mK M v1 = 11 then ((fX10_told N v1 x1174 M).bind fun (x1175, M1175) => ((sc xs L (v4 + 1)).bind fun x1184 => (if mK M1175 v2 = 12 then ((fX11_told N v2 x1184 M1175).bind fun (x1185, M1185) => (if x1175 = x1185 then fL_law_L N xs L v1 v2 v3 n (v4 + 6) M1185 else some (0, M1185))) else none))) else none)) else (if (x36 &&& 63) = 31 then (if mK M v1 = 11 then ((fX10_sentence N v1 M).bind fun (x1194, M1194) => (if mK M1194 v2 = 12 then ((fX11_sentence N v2 M1194).bind fun (x1198, M1198) => (if x1194 = x1198 then fL_law_L N xs L v1 v2 v3 n (v4 + 6) M1198 else some (0, M1198))) else none)) else none) else (if (x36 &&& 63) = 32 then ((sc xs L (v4 + 1)).bind fun x1212 => (if mK M v1 = 11 then ((fX10_said N v1 x1212 M).bind fun (x1213, M1213) => ((sc xs L (v4 + 1)).bind fun x1222 => (if mK M1213 v2 = 12 then ((fX11_said N v2 x1222 M1213).bind fun (x1223, M1223) => (if x1213 = x1223 then fL_law_L N xs L v1 v2 v3 n (v4 + 6) M1223 else some (0, M1223))) else none))) else none)) else (if (x36 &&& 63) = 33 then ((sc xs L (v4 + 1)).bind fun x1237 => (if mK M v1 = 11 then ((fX10_image N v1 x1237 M).bind fun (x1238, M1238) => ((sc xs L (v4 + 1)).bind fun x1247 => (if mK M1238 v2 = 12 then ((fX11_image N v2 x1247 M1238).bind fun (x1248, M1248) => (if x1238 = x1248 then fL_law_L N xs L v1 v2 v3 n (v4 + 6) M1248 else some (0, M1248))) else none))) else none)) else (if (x36 &&& 63) = 34 then ((sc xs L (v4 + 1)).bind fun x1262 => (if mK M v1 = 11 then ((fX10_restore N v1 x1262 M).bind fun (x1263, M1263) => ((sc xs L (v4 + 1)).bind fun x1272 => (if mK M1263 v2 = 12 then ((fX11_restore N v2 x1272 M1263).bind fun (x1273, M1273) => (if x1263 = x1273 then fL_law_L N xs L v1 v2 v3 n (v4 + 6) M1273 else some (0, M1273))) else none))) else none)) else (if (x36 &&& 63) = 35 then ((sc xs L (v4 + 1)).bind fun x1287 => (if mK M v1 = 11 then ((fX10_count N v1 x1287 M).bind fun (x1288, M1288) => ((sc xs L (v4 + 1)).bind fun x1297 => (if mK M1288 v2 = 12 then ((fX11_count N v2 x1297 M1288).bind fun (x1298, M1298) => (if x1288 = x1298 then fL_law_L N xs L v1 v2 v3 n (v4 + 6) M1298 else some (0, M1298))) else none))) else none)) else fL_law_L N xs L v1 v2 v3 n (v4 + 6) M))))))))))))))))))))))))))))))))))))))
def fL_law_ (N : Nat) (xs : Nat → Int32) (L : Nat) (M : Mem) : Option (Int32 × Mem) := ((nO M 10).bind fun (x0_1, M0_1) => ((fX10_init N x0_1 M0_1).bind fun (u4, M4_2) => ((nO M4_2 11).bind fun (x8_3, M8_3) => ((fX11_init N x8_3 M8_3).bind fun (u12, M12_4) => ((nV M12_4 21 1).bind fun (x17_5, M17_5) => (fL_law_L N xs L x0_1 x8_3 x17_5 N 0 (fg M17_5)))))))
set_option maxHeartbeats 40000000 in
set_option maxRecDepth 100000 in
theorem law_L {p : Program} {l : Launch} {e : Env} {s : State} {m : MethodId} {below : List Frame} {meth : Method} {c : Code} {sb L b : Nat} {xs : Nat → Int32} {D : va_G} {cy : Nat → ClassId} (hlt : l.stackTraces = false) (F : Fx p s m #[Value.ref sb] c cL_law_ 7 RL b D cy) (hX : va_X sb L xs s s.heap) (hbl : sb < s.heap.size) (hb : b = s.heap.size) (hr : meth.sig.returnType = ret) (hl : meth.locks = false) (N : Nat) (Mf : Mem) (v1 v2 v3 : Nat) : ∀ (n : Nat) (cz cs : Nat) (hcz : cz + n ≤ 600128) (hcs : cs + 6 * n ≤ 7301098) (v4 : Int32) (M : Mem) (o : Int32 × Mem), fL_law_L N xs L v1 v2 v3 n v4 M = some o → (∀ (r' : Int32) (M' : Mem), o = (r', M') → r' = 1 ∧ M' = Mf) → X p l e room_1 s m #[Value.ref sb] below meth c (lw_Z below #[Value.ref sb] s) 7 b D cy cz cs M 23 [(0, .ref sb), (1, .ref (b + v1)), (2, .ref (b + v2)), (3, .ref (b + v3)), (4, .int v4)] [] := by
  have hsb : sb < b := by rw [hb]; exact hbl
  intro n
  induction n with
  | zero => intro cz cs hcz hcs v4 M o h; exact absurd h (by rw [fL_law_L]; exact fun z => by cases z)
  | succ n ih =>
    intro cz cs hcz hcs v4 M o h hR
    have hc1 : cz + 1 ≤ 600128 := by omega
    have hc0 : cz ≤ 600128 := by omega
    have hs6 : cs + 6 ≤ 7301098 := by omega
    have hs0 : cs ≤ 7301098 := by omega
    rw [fL_law_L] at h
    refine x_iload F dL_law__23 4 rfl ?_
    refine x_aload_n F dL_law__25 rfl 0 rfl ?_
    refine x_sL F hX hbl hsb dL_law__26 ?_
    refine x_bipush F (v := 6) dL_law__27 (by decide) ?_
    refine x_isub F dL_law__29 ?_
    refine x_icmp_gt F (tgt := 1312) dL_law__30 (by decide) (fun c30 => ?_) (fun c30 => ?_)
    · rw [if_pos c30] at h
      refine x_iconst F (v := 1) dL_law__1312 (by decide) ?_
      obtain rfl := Option.some.inj h
      obtain ⟨hr1, rfl⟩ := hR _ _ rfl
      exact x_ret1 F hb hr hl hc0 hs0 dL_law__1313
    · rw [if_neg c30] at h
      refine x_aload_n F dL_law__33 rfl 0 rfl ?_
      refine x_iload F dL_law__34 4 rfl ?_
      obtain ⟨x36, c36, h⟩ := bdS h
      refine x_sI F hX hbl hsb c36 dL_law__36 ?_
      refine x_bipush F (v := 63) dL_law__37 (by decide) ?_
      refine x_iand F dL_law__39 ?_
      by_cases c40_0 : (x36 &&& 63) = 0
      · rw [if_pos c40_0] at h
        refine x_tableIn F (off := 160) (tgt := 200) dL_law__40 (by rw [c40_0]; decide) (by rw [c40_0]; decide) (by rw [c40_0]; decide) (by decide) ?_
        refine x_aload_n F dL_law__200 rfl 1 rfl ?_
        refine x_aload_n F dL_law__201 rfl 0 rfl ?_
        refine x_iload F dL_law__202 4 rfl ?_
        refine x_iconst F (v := 1) dL_law__204 (by decide) ?_
        refine x_iadd F dL_law__205 ?_
        obtain ⟨x206, c206, h⟩ := bdS h
        refine x_sI F hX hbl hsb c206 dL_law__206 ?_
        refine x_aload_n F dL_law__207 rfl 0 rfl ?_
        refine x_iload F dL_law__208 4 rfl ?_
        refine x_iconst F (v := 2) dL_law__210 (by decide) ?_
        refine x_iadd F dL_law__211 ?_
        obtain ⟨x212, c212, h⟩ := bdS h
        refine x_sI F hX hbl hsb c212 dL_law__212 ?_
        refine x_aload_n F dL_law__213 rfl 0 rfl ?_
        refine x_iload F dL_law__214 4 rfl ?_
        refine x_iconst F (v := 3) dL_law__216 (by decide) ?_
        refine x_iadd F dL_law__217 ?_
        obtain ⟨x218, c218, h⟩ := bdS h
        refine x_sI F hX hbl hsb c218 dL_law__218 ?_
        refine x_aload_n F dL_law__219 rfl 0 rfl ?_
        refine x_iload F dL_law__220 4 rfl ?_
        refine x_iconst F (v := 4) dL_law__222 (by decide) ?_
        refine x_iadd F dL_law__223 ?_
        obtain ⟨x224, c224, h⟩ := bdS h
        refine x_sI F hX hbl hsb c224 dL_law__224 ?_
        refine x_aload_n F dL_law__225 rfl 0 rfl ?_
        refine x_iload F dL_law__226 4 rfl ?_
        refine x_iconst F (v := 5) dL_law__228 (by decide) ?_
        refine x_iadd F dL_law__229 ?_
        obtain ⟨x230, c230, h⟩ := bdS h
        refine x_sI F hX hbl hsb c230 dL_law__230 ?_
        obtain ⟨k231, h⟩ := gdS h
        obtain ⟨⟨x231, M231⟩, c231, h⟩ := bdS h
        dsimp only at h
        refine x_callV F (As := [.int x206, .int x212, .int x218, .int x224, .int x230]) (rest := []) (res := (some (.int x231))) (ci := 10) (q := (RX10, TX10, 19)) rfl (by decide) k231 (k_X10_feed l b D cy N v1 x206 x212 x218 x224 x230 M _ _ c231) wl_1291 wl_1292 wl_1293 wl_31 wl_673 hd_X10_feed ⟨Nat.le_of_ble_eq_true rfl, Nat.le_of_ble_eq_true rfl⟩ ⟨hc0, hs0⟩ (Nat.le_of_ble_eq_true rfl) rfl dL_law__231 ?_
        refine x_aload_n F dL_law__234 rfl 2 rfl ?_
        refine x_aload_n F dL_law__235 rfl 0 rfl ?_
        refine x_iload F dL_law__236 4 rfl ?_
        refine x_iconst F (v := 1) dL_law__238 (by decide) ?_
        refine x_iadd F dL_law__239 ?_
        obtain ⟨x240, c240, h⟩ := bdS h
        refine x_sI F hX hbl hsb c240 dL_law__240 ?_
        refine x_aload_n F dL_law__241 rfl 0 rfl ?_
        refine x_iload F dL_law__242 4 rfl ?_
        refine x_iconst F (v := 2) dL_law__244 (by decide) ?_
        refine x_iadd F dL_law__245 ?_
        obtain ⟨x246, c246, h⟩ := bdS h
        refine x_sI F hX hbl hsb c246 dL_law__246 ?_
        refine x_aload_n F dL_law__247 rfl 0 rfl ?_
        refine x_iload F dL_law__248 4 rfl ?_
        refine x_iconst F (v := 3) dL_law__250 (by decide) ?_
        refine x_iadd F dL_law__251 ?_
        obtain ⟨x252, c252, h⟩ := bdS h
        refine x_sI F hX hbl hsb c252 dL_law__252 ?_
        refine x_aload_n F dL_law__253 rfl 0 rfl ?_
        refine x_iload F dL_law__254 4 rfl ?_
        refine x_iconst F (v := 4) dL_law__256 (by decide) ?_
        refine x_iadd F dL_law__257 ?_
        obtain ⟨x258, c258, h⟩ := bdS h
        refine x_sI F hX hbl hsb c258 dL_law__258 ?_
        refine x_aload_n F dL_law__259 rfl 0 rfl ?_
        refine x_iload F dL_law__260 4 rfl ?_
        refine x_iconst F (v := 5) dL_law__262 (by decide) ?_
        refine x_iadd F dL_law__263 ?_
        obtain ⟨x264, c264, h⟩ := bdS h
        refine x_sI F hX hbl hsb c264 dL_law__264 ?_
        obtain ⟨k265, h⟩ := gdS h
        obtain ⟨⟨x265, M265⟩, c265, h⟩ := bdS h
        dsimp only at h
        refine x_callV F (As := [.int x240, .int x246, .int x252, .int x258, .int x264]) (rest := [.int x231]) (res := (some (.int x265))) (ci := 11) (q := (RX11, TX11, 45)) rfl (by decide) k265 (k_X11_feed l b D cy N v2 x240 x246 x252 x258 x264 M231 _ _ c265) wl_1294 wl_1295 wl_1296 wl_854 wl_850 hd_X11_feed ⟨Nat.le_of_ble_eq_true rfl, Nat.le_of_ble_eq_true rfl⟩ ⟨hc0, hs0⟩ (Nat.le_of_ble_eq_true rfl) rfl dL_law__265 ?_
        refine x_icmp_eq F (tgt := 1306) dL_law__268 (by decide) (fun c268 => ?_) (fun c268 => ?_)
        · rw [if_pos c268] at h
          refine x_iinc F (v := v4 + 6) (lv' := [(4, .int (v4 + 6)), (0, .ref sb), (1, .ref (b + v1)), (2, .ref (b + v2)), (3, .ref (b + v3))]) dL_law__1306 4 rfl rfl (by decide) rfl ?_
          refine x_goto F (tgt := 23) dL_law__1309 (by decide) ?_
          refine x_sub [1, 2, 3, 4, 0] rfl ?_
          exact ih cz cs (by omega) (by omega) (v4 + 6) M265 o h hR
        · rw [if_neg c268] at h
          refine x_iconst F (v := 0) dL_law__271 (by decide) ?_
          obtain rfl := Option.some.inj h
          obtain ⟨hr1, rfl⟩ := hR _ _ rfl
          exact absurd hr1 (by decide)
      rw [if_neg c40_0] at h
      by_cases c40_1 : (x36 &&& 63) = 1
      · rw [if_pos c40_1] at h
        refine x_tableIn F (off := 233) (tgt := 273) dL_law__40 (by rw [c40_1]; decide) (by rw [c40_1]; decide) (by rw [c40_1]; decide) (by decide) ?_
        refine x_aload_n F dL_law__273 rfl 1 rfl ?_
        refine x_aload_n F dL_law__274 rfl 0 rfl ?_
        refine x_iload F dL_law__275 4 rfl ?_
        refine x_iconst F (v := 1) dL_law__277 (by decide) ?_
        refine x_iadd F dL_law__278 ?_
        obtain ⟨x279, c279, h⟩ := bdS h
        refine x_sI F hX hbl hsb c279 dL_law__279 ?_
        obtain ⟨k280, h⟩ := gdS h
        obtain ⟨⟨x280, M280⟩, c280, h⟩ := bdS h
        dsimp only at h
        refine x_callV F (As := [.int x279]) (rest := []) (res := (some (.int x280))) (ci := 10) (q := (RX10, TX10, 19)) rfl (by decide) k280 (k_X10_end l b D cy N v1 x279 M _ _ c280) wl_1297 wl_1298 wl_1299 wl_31 wl_678 hd_X10_end ⟨Nat.le_of_ble_eq_true rfl, Nat.le_of_ble_eq_true rfl⟩ ⟨hc0, hs0⟩ (Nat.le_of_ble_eq_true rfl) rfl dL_law__280 ?_
        refine x_aload_n F dL_law__283 rfl 2 rfl ?_
        refine x_aload_n F dL_law__284 rfl 0 rfl ?_
        refine x_iload F dL_law__285 4 rfl ?_
        refine x_iconst F (v := 1) dL_law__287 (by decide) ?_
        refine x_iadd F dL_law__288 ?_
        obtain ⟨x289, c289, h⟩ := bdS h
        refine x_sI F hX hbl hsb c289 dL_law__289 ?_
        obtain ⟨k290, h⟩ := gdS h
        obtain ⟨⟨x290, M290⟩, c290, h⟩ := bdS h
        dsimp only at h
        refine x_callV F (As := [.int x289]) (rest := [.int x280]) (res := (some (.int x290))) (ci := 11) (q := (RX11, TX11, 45)) rfl (by decide) k290 (k_X11_end l b D cy N v2 x289 M280 _ _ c290) wl_1300 wl_1301 wl_1302 wl_854 wl_855 hd_X11_end ⟨Nat.le_of_ble_eq_true rfl, Nat.le_of_ble_eq_true rfl⟩ ⟨hc0, hs0⟩ (Nat.le_of_ble_eq_true rfl) rfl dL_law__290 ?_
        refine x_icmp_eq F (tgt := 1306) dL_law__293 (by decide) (fun c293 => ?_) (fun c293 => ?_)
        · rw [if_pos c293] at h
          refine x_iinc F (v := v4 + 6) (lv' := [(4, .int (v4 + 6)), (0, .ref sb), (1, .ref (b + v1)), (2, .ref (b + v2)), (3, .ref (b + v3))]) dL_law__1306 4 rfl rfl (by decide) rfl ?_
          refine x_goto F (tgt := 23) dL_law__1309 (by decide) ?_
          refine x_sub [1, 2, 3, 4, 0] rfl ?_
          exact ih cz cs (by omega) (by omega) (v4 + 6) M290 o h hR
        · rw [if_neg c293] at h
          refine x_iconst F (v := 0) dL_law__296 (by decide) ?_
          obtain rfl := Option.some.inj h
          obtain ⟨hr1, rfl⟩ := hR _ _ rfl
          exact absurd hr1 (by decide)
      rw [if_neg c40_1] at h
      by_cases c40_2 : (x36 &&& 63) = 2
      · rw [if_pos c40_2] at h
        refine x_tableIn F (off := 258) (tgt := 298) dL_law__40 (by rw [c40_2]; decide) (by rw [c40_2]; decide) (by rw [c40_2]; decide) (by decide) ?_
        refine x_aload_n F dL_law__298 rfl 1 rfl ?_
        obtain ⟨k299, h⟩ := gdS h
        obtain ⟨⟨x299, M299⟩, c299, h⟩ := bdS h
        dsimp only at h
        refine x_callV F (As := []) (rest := []) (res := (some (.int x299))) (ci := 10) (q := (RX10, TX10, 19)) rfl (by decide) k299 (k_X10_shore l b D cy N v1 M _ _ c299) wl_1303 wl_1304 wl_1305 wl_31 wl_695 hd_X10_shore ⟨Nat.le_of_ble_eq_true rfl, Nat.le_of_ble_eq_true rfl⟩ ⟨hc0, hs0⟩ (Nat.le_of_ble_eq_true rfl) rfl dL_law__299 ?_
        refine x_aload_n F dL_law__302 rfl 2 rfl ?_
        obtain ⟨k303, h⟩ := gdS h
        obtain ⟨⟨x303, M303⟩, c303, h⟩ := bdS h
        dsimp only at h
        refine x_callV F (As := []) (rest := [.int x299]) (res := (some (.int x303))) (ci := 11) (q := (RX11, TX11, 45)) rfl (by decide) k303 (k_X11_shore l b D cy N v2 M299 _ _ c303) wl_1306 wl_1307 wl_1308 wl_854 wl_996 hd_X11_shore ⟨Nat.le_of_ble_eq_true rfl, Nat.le_of_ble_eq_true rfl⟩ ⟨hc0, hs0⟩ (Nat.le_of_ble_eq_true rfl) rfl dL_law__303 ?_
        refine x_icmp_eq F (tgt := 1306) dL_law__306 (by decide) (fun c306 => ?_) (fun c306 => ?_)
        · rw [if_pos c306] at h
          refine x_iinc F (v := v4 + 6) (lv' := [(4, .int (v4 + 6)), (0, .ref sb), (1, .ref (b + v1)), (2, .ref (b + v2)), (3, .ref (b + v3))]) dL_law__1306 4 rfl rfl (by decide) rfl ?_
          refine x_goto F (tgt := 23) dL_law__1309 (by decide) ?_
          refine x_sub [1, 2, 3, 4, 0] rfl ?_
          exact ih cz cs (by omega) (by omega) (v4 + 6) M303 o h hR
        · rw [if_neg c306] at h
          refine x_iconst F (v := 0) dL_law__309 (by decide) ?_
          obtain rfl := Option.some.inj h
          obtain ⟨hr1, rfl⟩ := hR _ _ rfl
          exact absurd hr1 (by decide)
      rw [if_neg c40_2] at h
      by_cases c40_3 : (x36 &&& 63) = 3
      · rw [if_pos c40_3] at h
        refine x_tableIn F (off := 271) (tgt := 311) dL_law__40 (by rw [c40_3]; decide) (by rw [c40_3]; decide) (by rw [c40_3]; decide) (by decide) ?_
        refine x_aload_n F dL_law__311 rfl 1 rfl ?_
        obtain ⟨k312, h⟩ := gdS h
        obtain ⟨⟨x312, M312⟩, c312, h⟩ := bdS h
        dsimp only at h
        refine x_callV F (As := []) (rest := []) (res := (some (.int x312))) (ci := 10) (q := (RX10, TX10, 19)) rfl (by decide) k312 (k_X10_fault l b D cy N v1 M _ _ c312) wl_1309 wl_1310 wl_1311 wl_31 wl_696 hd_X10_fault ⟨Nat.le_of_ble_eq_true rfl, Nat.le_of_ble_eq_true rfl⟩ ⟨hc0, hs0⟩ (Nat.le_of_ble_eq_true rfl) rfl dL_law__312 ?_
        refine x_aload_n F dL_law__315 rfl 2 rfl ?_
        obtain ⟨k316, h⟩ := gdS h
        obtain ⟨⟨x316, M316⟩, c316, h⟩ := bdS h
        dsimp only at h
        refine x_callV F (As := []) (rest := [.int x312]) (res := (some (.int x316))) (ci := 11) (q := (RX11, TX11, 45)) rfl (by decide) k316 (k_X11_fault l b D cy N v2 M312 _ _ c316) wl_1312 wl_1313 wl_1314 wl_854 wl_997 hd_X11_fault ⟨Nat.le_of_ble_eq_true rfl, Nat.le_of_ble_eq_true rfl⟩ ⟨hc0, hs0⟩ (Nat.le_of_ble_eq_true rfl) rfl dL_law__316 ?_
        refine x_icmp_eq F (tgt := 1306) dL_law__319 (by decide) (fun c319 => ?_) (fun c319 => ?_)
        · rw [if_pos c319] at h
          refine x_iinc F (v := v4 + 6) (lv' := [(4, .int (v4 + 6)), (0, .ref sb), (1, .ref (b + v1)), (2, .ref (b + v2)), (3, .ref (b + v3))]) dL_law__1306 4 rfl rfl (by decide) rfl ?_
          refine x_goto F (tgt := 23) dL_law__1309 (by decide) ?_
          refine x_sub [1, 2, 3, 4, 0] rfl ?_
          exact ih cz cs (by omega) (by omega) (v4 + 6) M316 o h hR
        · rw [if_neg c319] at h
          refine x_iconst F (v := 0) dL_law__322 (by decide) ?_
          obtain rfl := Option.some.inj h
          obtain ⟨hr1, rfl⟩ := hR _ _ rfl
          exact absurd hr1 (by decide)
      rw [if_neg c40_3] at h
      by_cases c40_4 : (x36 &&& 63) = 4
      · rw [if_pos c40_4] at h
        refine x_tableIn F (off := 284) (tgt := 324) dL_law__40 (by rw [c40_4]; decide) (by rw [c40_4]; decide) (by rw [c40_4]; decide) (by decide) ?_
        refine x_aload_n F dL_law__324 rfl 1 rfl ?_
        refine x_aload_n F dL_law__325 rfl 0 rfl ?_
        refine x_iload F dL_law__326 4 rfl ?_
        refine x_iconst F (v := 1) dL_law__328 (by decide) ?_
        refine x_iadd F dL_law__329 ?_
        obtain ⟨x330, c330, h⟩ := bdS h
        refine x_sI F hX hbl hsb c330 dL_law__330 ?_
        refine x_aload_n F dL_law__331 rfl 0 rfl ?_
        refine x_iload F dL_law__332 4 rfl ?_
        refine x_iconst F (v := 2) dL_law__334 (by decide) ?_
        refine x_iadd F dL_law__335 ?_
        obtain ⟨x336, c336, h⟩ := bdS h
        refine x_sI F hX hbl hsb c336 dL_law__336 ?_
        refine x_aload_n F dL_law__337 rfl 3 rfl ?_
        obtain ⟨⟨x338, M338⟩, c338, h⟩ := bdS h
        dsimp only at h
        refine x_callW F (As := [.ref (b + v1), .int x330, .int x336, .ref (b + v3)]) (rest := []) (res := some (.int x338)) (k_L_band l hlt b D cy N v1 x330 x336 v3 M _ _ c338) wl_1315 wl_1316 wl_1317 wl_1509 (hd_L_band).2 ⟨Nat.le_of_ble_eq_true rfl, Nat.le_of_ble_eq_true rfl⟩ ⟨hc1, hs6⟩ (Nat.le_of_ble_eq_true rfl) rfl dL_law__338 ?_
        refine x_istore F (lv' := [(5, .int x338), (0, .ref sb), (1, .ref (b + v1)), (2, .ref (b + v2)), (3, .ref (b + v3)), (4, .int v4)]) dL_law__341 (by decide) rfl ?_
        refine x_aload_n F dL_law__343 rfl 3 rfl ?_
        refine x_aload_n F dL_law__344 rfl 1 rfl ?_
        refine x_iload F dL_law__345 5 rfl ?_
        refine x_iconst F (v := 1) dL_law__347 (by decide) ?_
        refine x_iadd F dL_law__348 ?_
        obtain ⟨x349, c349, h⟩ := bdS h
        refine x_sI F hX hbl hsb c349 dL_law__349 ?_
        refine x_aload_n F dL_law__350 rfl 1 rfl ?_
        refine x_iload F dL_law__351 5 rfl ?_
        refine x_iconst F (v := 2) dL_law__353 (by decide) ?_
        refine x_iadd F dL_law__354 ?_
        obtain ⟨x355, c355, h⟩ := bdS h
        refine x_sI F hX hbl hsb c355 dL_law__355 ?_
        obtain ⟨k356, h⟩ := gdS h
        obtain ⟨⟨x356, M356⟩, c356, h⟩ := bdS h
        dsimp only at h
        refine x_callV F (As := [.int x349, .int x355]) (rest := []) (res := (some (.int x356))) (ci := 11) (q := (RX11, TX11, 45)) rfl (by decide) k356 (k_X11_band l b D cy N v2 x349 x355 M338 _ _ c356) wl_1318 wl_1319 wl_1320 wl_854 wl_1048 hd_X11_band ⟨Nat.le_of_ble_eq_true rfl, Nat.le_of_ble_eq_true rfl⟩ ⟨hc1, hs6⟩ (Nat.le_of_ble_eq_true rfl) rfl dL_law__356 ?_
        refine x_istore F (lv' := [(6, .int x356), (5, .int x338), (0, .ref sb), (1, .ref (b + v1)), (2, .ref (b + v2)), (3, .ref (b + v3)), (4, .int v4)]) dL_law__359 (by decide) rfl ?_
        refine x_aload_n F dL_law__361 rfl 4 rfl ?_
        obtain ⟨k362, h⟩ := gdS h
        obtain ⟨⟨x362, M362⟩, c362, h⟩ := bdS h
        dsimp only at h
        refine x_callV F (As := []) (rest := []) (res := (some (.int x362))) (ci := 11) (q := (RX11, TX11, 45)) rfl (by decide) k362 (k_X11_thrown l b D cy N v2 M356 _ _ c362) wl_1321 wl_1322 wl_1323 wl_854 wl_844 hd_X11_thrown ⟨Nat.le_of_ble_eq_true rfl, Nat.le_of_ble_eq_true rfl⟩ ⟨hc1, hs6⟩ (Nat.le_of_ble_eq_true rfl) rfl dL_law__362 ?_
        refine x_iload F dL_law__365 1 rfl ?_
        refine x_icmp_eq F (tgt := 372) dL_law__367 (by decide) (fun c367 => ?_) (fun c367 => ?_)
        · rw [if_pos c367] at h
          refine x_iload F dL_law__372 1 rfl ?_
          refine x_if_ne F (tgt := 389) dL_law__374 (by decide) (fun c374 => ?_) (fun c374 => ?_)
          · rw [if_neg c374] at h
            refine x_goto F (tgt := 1306) dL_law__389 (by decide) ?_
            refine x_iinc F (v := v4 + 6) (lv' := [(4, .int (v4 + 6)), (6, .int x356), (5, .int x338), (0, .ref sb), (1, .ref (b + v1)), (2, .ref (b + v2)), (3, .ref (b + v3))]) dL_law__1306 6 rfl rfl (by decide) rfl ?_
            refine x_goto F (tgt := 23) dL_law__1309 (by decide) ?_
            refine x_sub [3, 4, 5, 6, 0] rfl ?_
            exact ih (cz + 1) (cs + 6) (by omega) (by omega) (v4 + 6) M362 o h hR
          · rw [if_pos c374] at h
            refine x_aload_n F dL_law__377 rfl 5 rfl ?_
            refine x_iconst F (v := 0) dL_law__378 (by decide) ?_
            obtain ⟨x379, c379, h⟩ := bdS h
            refine x_aL F c379 dL_law__379 ?_
            refine x_iload F dL_law__380 0 rfl ?_
            refine x_i2l F dL_law__382 ?_
            refine x_lcmp F dL_law__383 ?_
            refine x_if_eq F (tgt := 389) dL_law__384 (by decide) (fun c384 => ?_) (fun c384 => ?_)
            · rw [if_pos c384] at h
              refine x_goto F (tgt := 1306) dL_law__389 (by decide) ?_
              refine x_iinc F (v := v4 + 6) (lv' := [(4, .int (v4 + 6)), (6, .int x356), (5, .int x338), (0, .ref sb), (1, .ref (b + v1)), (2, .ref (b + v2)), (3, .ref (b + v3))]) dL_law__1306 6 rfl rfl (by decide) rfl ?_
              refine x_goto F (tgt := 23) dL_law__1309 (by decide) ?_
              refine x_sub [3, 4, 5, 6, 0] rfl ?_
              exact ih (cz + 1) (cs + 6) (by omega) (by omega) (v4 + 6) M362 o h hR
            · rw [if_neg c384] at h
              refine x_iconst F (v := 0) dL_law__387 (by decide) ?_
              obtain rfl := Option.some.inj h
              obtain ⟨hr1, rfl⟩ := hR _ _ rfl
              exact absurd hr1 (by decide)
        · rw [if_neg c367] at h
          refine x_iconst F (v := 0) dL_law__370 (by decide) ?_
          obtain rfl := Option.some.inj h
          obtain ⟨hr1, rfl⟩ := hR _ _ rfl
          exact absurd hr1 (by decide)
      rw [if_neg c40_4] at h
      by_cases c40_5 : (x36 &&& 63) = 5
      · rw [if_pos c40_5] at h
        refine x_tableIn F (off := 352) (tgt := 392) dL_law__40 (by rw [c40_5]; decide) (by rw [c40_5]; decide) (by rw [c40_5]; decide) (by decide) ?_
        refine x_aload_n F dL_law__392 rfl 1 rfl ?_
        refine x_aload_n F dL_law__393 rfl 0 rfl ?_
        refine x_iload F dL_law__394 4 rfl ?_
        refine x_iconst F (v := 1) dL_law__396 (by decide) ?_
        refine x_iadd F dL_law__397 ?_
        obtain ⟨x398, c398, h⟩ := bdS h
        refine x_sI F hX hbl hsb c398 dL_law__398 ?_
        refine x_aload_n F dL_law__399 rfl 0 rfl ?_
        refine x_iload F dL_law__400 4 rfl ?_
        refine x_iconst F (v := 2) dL_law__402 (by decide) ?_
        refine x_iadd F dL_law__403 ?_
        obtain ⟨x404, c404, h⟩ := bdS h
        refine x_sI F hX hbl hsb c404 dL_law__404 ?_
        obtain ⟨k405, h⟩ := gdS h
        obtain ⟨⟨x405, M405⟩, c405, h⟩ := bdS h
        dsimp only at h
        refine x_callV F (As := [.int x398, .int x404]) (rest := []) (res := (some (.int x405))) (ci := 10) (q := (RX10, TX10, 19)) rfl (by decide) k405 (k_X10_sign l b D cy N v1 x398 x404 M _ _ c405) wl_1324 wl_1325 wl_1326 wl_31 wl_706 hd_X10_sign ⟨Nat.le_of_ble_eq_true rfl, Nat.le_of_ble_eq_true rfl⟩ ⟨hc0, hs0⟩ (Nat.le_of_ble_eq_true rfl) rfl dL_law__405 ?_
        refine x_aload_n F dL_law__408 rfl 2 rfl ?_
        refine x_aload_n F dL_law__409 rfl 0 rfl ?_
        refine x_iload F dL_law__410 4 rfl ?_
        refine x_iconst F (v := 1) dL_law__412 (by decide) ?_
        refine x_iadd F dL_law__413 ?_
        obtain ⟨x414, c414, h⟩ := bdS h
        refine x_sI F hX hbl hsb c414 dL_law__414 ?_
        refine x_aload_n F dL_law__415 rfl 0 rfl ?_
        refine x_iload F dL_law__416 4 rfl ?_
        refine x_iconst F (v := 2) dL_law__418 (by decide) ?_
        refine x_iadd F dL_law__419 ?_
        obtain ⟨x420, c420, h⟩ := bdS h
        refine x_sI F hX hbl hsb c420 dL_law__420 ?_
        obtain ⟨k421, h⟩ := gdS h
        obtain ⟨⟨x421, M421⟩, c421, h⟩ := bdS h
        dsimp only at h
        refine x_callV F (As := [.int x414, .int x420]) (rest := [.int x405]) (res := (some (.int x421))) (ci := 11) (q := (RX11, TX11, 45)) rfl (by decide) k421 (k_X11_sign l b D cy N v2 x414 x420 M405 _ _ c421) wl_1327 wl_1328 wl_1329 wl_854 wl_1049 hd_X11_sign ⟨Nat.le_of_ble_eq_true rfl, Nat.le_of_ble_eq_true rfl⟩ ⟨hc0, hs0⟩ (Nat.le_of_ble_eq_true rfl) rfl dL_law__421 ?_
        refine x_icmp_eq F (tgt := 1306) dL_law__424 (by decide) (fun c424 => ?_) (fun c424 => ?_)
        · rw [if_pos c424] at h
          refine x_iinc F (v := v4 + 6) (lv' := [(4, .int (v4 + 6)), (0, .ref sb), (1, .ref (b + v1)), (2, .ref (b + v2)), (3, .ref (b + v3))]) dL_law__1306 4 rfl rfl (by decide) rfl ?_
          refine x_goto F (tgt := 23) dL_law__1309 (by decide) ?_
          refine x_sub [1, 2, 3, 4, 0] rfl ?_
          exact ih cz cs (by omega) (by omega) (v4 + 6) M421 o h hR
        · rw [if_neg c424] at h
          refine x_iconst F (v := 0) dL_law__427 (by decide) ?_
          obtain rfl := Option.some.inj h
          obtain ⟨hr1, rfl⟩ := hR _ _ rfl
          exact absurd hr1 (by decide)
      rw [if_neg c40_5] at h
      by_cases c40_6 : (x36 &&& 63) = 6
      · rw [if_pos c40_6] at h
        refine x_tableIn F (off := 389) (tgt := 429) dL_law__40 (by rw [c40_6]; decide) (by rw [c40_6]; decide) (by rw [c40_6]; decide) (by decide) ?_
        refine x_aload_n F dL_law__429 rfl 1 rfl ?_
        refine x_aload_n F dL_law__430 rfl 0 rfl ?_
        refine x_iload F dL_law__431 4 rfl ?_
        refine x_iconst F (v := 1) dL_law__433 (by decide) ?_
        refine x_iadd F dL_law__434 ?_
        obtain ⟨x435, c435, h⟩ := bdS h
        refine x_sI F hX hbl hsb c435 dL_law__435 ?_
        refine x_aload_n F dL_law__436 rfl 0 rfl ?_
        refine x_iload F dL_law__437 4 rfl ?_
        refine x_iconst F (v := 2) dL_law__439 (by decide) ?_
        refine x_iadd F dL_law__440 ?_
        obtain ⟨x441, c441, h⟩ := bdS h
        refine x_sI F hX hbl hsb c441 dL_law__441 ?_
        obtain ⟨k442, h⟩ := gdS h
        obtain ⟨⟨x442, M442⟩, c442, h⟩ := bdS h
        dsimp only at h
        refine x_callV F (As := [.int x435, .int x441]) (rest := []) (res := (some (.int x442))) (ci := 10) (q := (RX10, TX10, 19)) rfl (by decide) k442 (k_X10_hand l b D cy N v1 x435 x441 M _ _ c442) wl_1330 wl_1331 wl_1332 wl_31 wl_710 hd_X10_hand ⟨Nat.le_of_ble_eq_true rfl, Nat.le_of_ble_eq_true rfl⟩ ⟨hc0, hs0⟩ (Nat.le_of_ble_eq_true rfl) rfl dL_law__442 ?_
        refine x_aload_n F dL_law__445 rfl 2 rfl ?_
        refine x_aload_n F dL_law__446 rfl 0 rfl ?_
        refine x_iload F dL_law__447 4 rfl ?_
        refine x_iconst F (v := 1) dL_law__449 (by decide) ?_
        refine x_iadd F dL_law__450 ?_
        obtain ⟨x451, c451, h⟩ := bdS h
        refine x_sI F hX hbl hsb c451 dL_law__451 ?_
        refine x_aload_n F dL_law__452 rfl 0 rfl ?_
        refine x_iload F dL_law__453 4 rfl ?_
        refine x_iconst F (v := 2) dL_law__455 (by decide) ?_
        refine x_iadd F dL_law__456 ?_
        obtain ⟨x457, c457, h⟩ := bdS h
        refine x_sI F hX hbl hsb c457 dL_law__457 ?_
        obtain ⟨k458, h⟩ := gdS h
        obtain ⟨⟨x458, M458⟩, c458, h⟩ := bdS h
        dsimp only at h
        refine x_callV F (As := [.int x451, .int x457]) (rest := [.int x442]) (res := (some (.int x458))) (ci := 11) (q := (RX11, TX11, 45)) rfl (by decide) k458 (k_X11_hand l b D cy N v2 x451 x457 M442 _ _ c458) wl_1333 wl_1334 wl_1335 wl_854 wl_1053 hd_X11_hand ⟨Nat.le_of_ble_eq_true rfl, Nat.le_of_ble_eq_true rfl⟩ ⟨hc0, hs0⟩ (Nat.le_of_ble_eq_true rfl) rfl dL_law__458 ?_
        refine x_icmp_eq F (tgt := 1306) dL_law__461 (by decide) (fun c461 => ?_) (fun c461 => ?_)
        · rw [if_pos c461] at h
          refine x_iinc F (v := v4 + 6) (lv' := [(4, .int (v4 + 6)), (0, .ref sb), (1, .ref (b + v1)), (2, .ref (b + v2)), (3, .ref (b + v3))]) dL_law__1306 4 rfl rfl (by decide) rfl ?_
          refine x_goto F (tgt := 23) dL_law__1309 (by decide) ?_
          refine x_sub [1, 2, 3, 4, 0] rfl ?_
          exact ih cz cs (by omega) (by omega) (v4 + 6) M458 o h hR
        · rw [if_neg c461] at h
          refine x_iconst F (v := 0) dL_law__464 (by decide) ?_
          obtain rfl := Option.some.inj h
          obtain ⟨hr1, rfl⟩ := hR _ _ rfl
          exact absurd hr1 (by decide)
      rw [if_neg c40_6] at h
      by_cases c40_7 : (x36 &&& 63) = 7
      · rw [if_pos c40_7] at h
        refine x_tableIn F (off := 426) (tgt := 466) dL_law__40 (by rw [c40_7]; decide) (by rw [c40_7]; decide) (by rw [c40_7]; decide) (by decide) ?_
        refine x_aload_n F dL_law__466 rfl 1 rfl ?_
        refine x_aload_n F dL_law__467 rfl 0 rfl ?_
        refine x_iload F dL_law__468 4 rfl ?_
        refine x_iconst F (v := 1) dL_law__470 (by decide) ?_
        refine x_iadd F dL_law__471 ?_
        obtain ⟨x472, c472, h⟩ := bdS h
        refine x_sI F hX hbl hsb c472 dL_law__472 ?_
        refine x_aload_n F dL_law__473 rfl 0 rfl ?_
        refine x_iload F dL_law__474 4 rfl ?_
        refine x_iconst F (v := 2) dL_law__476 (by decide) ?_
        refine x_iadd F dL_law__477 ?_
        obtain ⟨x478, c478, h⟩ := bdS h
        refine x_sI F hX hbl hsb c478 dL_law__478 ?_
        refine x_aload_n F dL_law__479 rfl 3 rfl ?_
        obtain ⟨⟨x480, M480⟩, c480, h⟩ := bdS h
        dsimp only at h
        refine x_callW F (As := [.ref (b + v1), .int x472, .int x478, .ref (b + v3)]) (rest := []) (res := some (.int x480)) (k_L_law l hlt b D cy N v1 x472 x478 v3 M _ _ c480) wl_1336 wl_1337 wl_1317 wl_1510 (hd_L_law).2 ⟨Nat.le_of_ble_eq_true rfl, Nat.le_of_ble_eq_true rfl⟩ ⟨hc1, hs6⟩ (Nat.le_of_ble_eq_true rfl) rfl dL_law__480 ?_
        refine x_istore F (lv' := [(5, .int x480), (0, .ref sb), (1, .ref (b + v1)), (2, .ref (b + v2)), (3, .ref (b + v3)), (4, .int v4)]) dL_law__483 (by decide) rfl ?_
        refine x_aload_n F dL_law__485 rfl 3 rfl ?_
        refine x_aload_n F dL_law__486 rfl 1 rfl ?_
        refine x_iload F dL_law__487 5 rfl ?_
        refine x_iconst F (v := 1) dL_law__489 (by decide) ?_
        refine x_iadd F dL_law__490 ?_
        obtain ⟨x491, c491, h⟩ := bdS h
        refine x_sI F hX hbl hsb c491 dL_law__491 ?_
        refine x_aload_n F dL_law__492 rfl 1 rfl ?_
        refine x_iload F dL_law__493 5 rfl ?_
        refine x_iconst F (v := 2) dL_law__495 (by decide) ?_
        refine x_iadd F dL_law__496 ?_
        obtain ⟨x497, c497, h⟩ := bdS h
        refine x_sI F hX hbl hsb c497 dL_law__497 ?_
        obtain ⟨k498, h⟩ := gdS h
        obtain ⟨⟨x498, M498⟩, c498, h⟩ := bdS h
        dsimp only at h
        refine x_callV F (As := [.int x491, .int x497]) (rest := []) (res := (some (.int x498))) (ci := 11) (q := (RX11, TX11, 45)) rfl (by decide) k498 (k_X11_law l b D cy N v2 x491 x497 M480 _ _ c498) wl_1338 wl_1339 wl_1340 wl_854 wl_1062 hd_X11_law ⟨Nat.le_of_ble_eq_true rfl, Nat.le_of_ble_eq_true rfl⟩ ⟨hc1, hs6⟩ (Nat.le_of_ble_eq_true rfl) rfl dL_law__498 ?_
        refine x_istore F (lv' := [(6, .int x498), (5, .int x480), (0, .ref sb), (1, .ref (b + v1)), (2, .ref (b + v2)), (3, .ref (b + v3)), (4, .int v4)]) dL_law__501 (by decide) rfl ?_
        refine x_aload_n F dL_law__503 rfl 4 rfl ?_
        obtain ⟨k504, h⟩ := gdS h
        obtain ⟨⟨x504, M504⟩, c504, h⟩ := bdS h
        dsimp only at h
        refine x_callV F (As := []) (rest := []) (res := (some (.int x504))) (ci := 11) (q := (RX11, TX11, 45)) rfl (by decide) k504 (k_X11_thrown l b D cy N v2 M498 _ _ c504) wl_1321 wl_1322 wl_1323 wl_854 wl_844 hd_X11_thrown ⟨Nat.le_of_ble_eq_true rfl, Nat.le_of_ble_eq_true rfl⟩ ⟨hc1, hs6⟩ (Nat.le_of_ble_eq_true rfl) rfl dL_law__504 ?_
        refine x_iload F dL_law__507 1 rfl ?_
        refine x_icmp_eq F (tgt := 514) dL_law__509 (by decide) (fun c509 => ?_) (fun c509 => ?_)
        · rw [if_pos c509] at h
          refine x_iload F dL_law__514 1 rfl ?_
          refine x_if_ne F (tgt := 531) dL_law__516 (by decide) (fun c516 => ?_) (fun c516 => ?_)
          · rw [if_neg c516] at h
            refine x_goto F (tgt := 1306) dL_law__531 (by decide) ?_
            refine x_iinc F (v := v4 + 6) (lv' := [(4, .int (v4 + 6)), (6, .int x498), (5, .int x480), (0, .ref sb), (1, .ref (b + v1)), (2, .ref (b + v2)), (3, .ref (b + v3))]) dL_law__1306 6 rfl rfl (by decide) rfl ?_
            refine x_goto F (tgt := 23) dL_law__1309 (by decide) ?_
            refine x_sub [3, 4, 5, 6, 0] rfl ?_
            exact ih (cz + 1) (cs + 6) (by omega) (by omega) (v4 + 6) M504 o h hR
          · rw [if_pos c516] at h
            refine x_aload_n F dL_law__519 rfl 5 rfl ?_
            refine x_iconst F (v := 0) dL_law__520 (by decide) ?_
            obtain ⟨x521, c521, h⟩ := bdS h
            refine x_aL F c521 dL_law__521 ?_
            refine x_iload F dL_law__522 0 rfl ?_
            refine x_i2l F dL_law__524 ?_
            refine x_lcmp F dL_law__525 ?_
            refine x_if_eq F (tgt := 531) dL_law__526 (by decide) (fun c526 => ?_) (fun c526 => ?_)
            · rw [if_pos c526] at h
              refine x_goto F (tgt := 1306) dL_law__531 (by decide) ?_
              refine x_iinc F (v := v4 + 6) (lv' := [(4, .int (v4 + 6)), (6, .int x498), (5, .int x480), (0, .ref sb), (1, .ref (b + v1)), (2, .ref (b + v2)), (3, .ref (b + v3))]) dL_law__1306 6 rfl rfl (by decide) rfl ?_
              refine x_goto F (tgt := 23) dL_law__1309 (by decide) ?_
              refine x_sub [3, 4, 5, 6, 0] rfl ?_
              exact ih (cz + 1) (cs + 6) (by omega) (by omega) (v4 + 6) M504 o h hR
            · rw [if_neg c526] at h
              refine x_iconst F (v := 0) dL_law__529 (by decide) ?_
              obtain rfl := Option.some.inj h
              obtain ⟨hr1, rfl⟩ := hR _ _ rfl
              exact absurd hr1 (by decide)
        · rw [if_neg c509] at h
          refine x_iconst F (v := 0) dL_law__512 (by decide) ?_
          obtain rfl := Option.some.inj h
          obtain ⟨hr1, rfl⟩ := hR _ _ rfl
          exact absurd hr1 (by decide)
      rw [if_neg c40_7] at h
      by_cases c40_8 : (x36 &&& 63) = 8
      · rw [if_pos c40_8] at h
        refine x_tableIn F (off := 494) (tgt := 534) dL_law__40 (by rw [c40_8]; decide) (by rw [c40_8]; decide) (by rw [c40_8]; decide) (by decide) ?_
        refine x_aload_n F dL_law__534 rfl 1 rfl ?_
        refine x_aload_n F dL_law__535 rfl 0 rfl ?_
        refine x_iload F dL_law__536 4 rfl ?_
        refine x_iconst F (v := 1) dL_law__538 (by decide) ?_
        refine x_iadd F dL_law__539 ?_
        obtain ⟨x540, c540, h⟩ := bdS h
        refine x_sI F hX hbl hsb c540 dL_law__540 ?_
        refine x_aload_n F dL_law__541 rfl 0 rfl ?_
        refine x_iload F dL_law__542 4 rfl ?_
        refine x_iconst F (v := 2) dL_law__544 (by decide) ?_
        refine x_iadd F dL_law__545 ?_
        obtain ⟨x546, c546, h⟩ := bdS h
        refine x_sI F hX hbl hsb c546 dL_law__546 ?_
        obtain ⟨k547, h⟩ := gdS h
        obtain ⟨⟨x547, M547⟩, c547, h⟩ := bdS h
        dsimp only at h
        refine x_callV F (As := [.int x540, .int x546]) (rest := []) (res := (some (.int x547))) (ci := 10) (q := (RX10, TX10, 19)) rfl (by decide) k547 (k_X10_lawAt l b D cy N v1 x540 x546 M _ _ c547) wl_1341 wl_1342 wl_1343 wl_31 wl_721 hd_X10_lawAt ⟨Nat.le_of_ble_eq_true rfl, Nat.le_of_ble_eq_true rfl⟩ ⟨hc0, hs0⟩ (Nat.le_of_ble_eq_true rfl) rfl dL_law__547 ?_
        refine x_aload_n F dL_law__550 rfl 2 rfl ?_
        refine x_aload_n F dL_law__551 rfl 0 rfl ?_
        refine x_iload F dL_law__552 4 rfl ?_
        refine x_iconst F (v := 1) dL_law__554 (by decide) ?_
        refine x_iadd F dL_law__555 ?_
        obtain ⟨x556, c556, h⟩ := bdS h
        refine x_sI F hX hbl hsb c556 dL_law__556 ?_
        refine x_aload_n F dL_law__557 rfl 0 rfl ?_
        refine x_iload F dL_law__558 4 rfl ?_
        refine x_iconst F (v := 2) dL_law__560 (by decide) ?_
        refine x_iadd F dL_law__561 ?_
        obtain ⟨x562, c562, h⟩ := bdS h
        refine x_sI F hX hbl hsb c562 dL_law__562 ?_
        obtain ⟨k563, h⟩ := gdS h
        obtain ⟨⟨x563, M563⟩, c563, h⟩ := bdS h
        dsimp only at h
        refine x_callV F (As := [.int x556, .int x562]) (rest := [.int x547]) (res := (some (.int x563))) (ci := 11) (q := (RX11, TX11, 45)) rfl (by decide) k563 (k_X11_lawAt l b D cy N v2 x556 x562 M547 _ _ c563) wl_1344 wl_1345 wl_1346 wl_854 wl_1063 hd_X11_lawAt ⟨Nat.le_of_ble_eq_true rfl, Nat.le_of_ble_eq_true rfl⟩ ⟨hc0, hs0⟩ (Nat.le_of_ble_eq_true rfl) rfl dL_law__563 ?_
        refine x_icmp_eq F (tgt := 1306) dL_law__566 (by decide) (fun c566 => ?_) (fun c566 => ?_)
        · rw [if_pos c566] at h
          refine x_iinc F (v := v4 + 6) (lv' := [(4, .int (v4 + 6)), (0, .ref sb), (1, .ref (b + v1)), (2, .ref (b + v2)), (3, .ref (b + v3))]) dL_law__1306 4 rfl rfl (by decide) rfl ?_
          refine x_goto F (tgt := 23) dL_law__1309 (by decide) ?_
          refine x_sub [1, 2, 3, 4, 0] rfl ?_
          exact ih cz cs (by omega) (by omega) (v4 + 6) M563 o h hR
        · rw [if_neg c566] at h
          refine x_iconst F (v := 0) dL_law__569 (by decide) ?_
          obtain rfl := Option.some.inj h
          obtain ⟨hr1, rfl⟩ := hR _ _ rfl
          exact absurd hr1 (by decide)
      rw [if_neg c40_8] at h
      by_cases c40_9 : (x36 &&& 63) = 9
      · rw [if_pos c40_9] at h
        refine x_tableIn F (off := 531) (tgt := 571) dL_law__40 (by rw [c40_9]; decide) (by rw [c40_9]; decide) (by rw [c40_9]; decide) (by decide) ?_
        refine x_aload_n F dL_law__571 rfl 1 rfl ?_
        refine x_aload_n F dL_law__572 rfl 0 rfl ?_
        refine x_iload F dL_law__573 4 rfl ?_
        refine x_iconst F (v := 1) dL_law__575 (by decide) ?_
        refine x_iadd F dL_law__576 ?_
        obtain ⟨x577, c577, h⟩ := bdS h
        refine x_sI F hX hbl hsb c577 dL_law__577 ?_
        refine x_aload_n F dL_law__578 rfl 0 rfl ?_
        refine x_iload F dL_law__579 4 rfl ?_
        refine x_iconst F (v := 2) dL_law__581 (by decide) ?_
        refine x_iadd F dL_law__582 ?_
        obtain ⟨x583, c583, h⟩ := bdS h
        refine x_sI F hX hbl hsb c583 dL_law__583 ?_
        obtain ⟨k584, h⟩ := gdS h
        obtain ⟨⟨x584, M584⟩, c584, h⟩ := bdS h
        dsimp only at h
        refine x_callV F (As := [.int x577, .int x583]) (rest := []) (res := (some (.int x584))) (ci := 10) (q := (RX10, TX10, 19)) rfl (by decide) k584 (k_X10_writer l b D cy N v1 x577 x583 M _ _ c584) wl_1347 wl_1348 wl_1349 wl_31 wl_723 hd_X10_writer ⟨Nat.le_of_ble_eq_true rfl, Nat.le_of_ble_eq_true rfl⟩ ⟨hc0, hs0⟩ (Nat.le_of_ble_eq_true rfl) rfl dL_law__584 ?_
        refine x_aload_n F dL_law__587 rfl 2 rfl ?_
        refine x_aload_n F dL_law__588 rfl 0 rfl ?_
        refine x_iload F dL_law__589 4 rfl ?_
        refine x_iconst F (v := 1) dL_law__591 (by decide) ?_
        refine x_iadd F dL_law__592 ?_
        obtain ⟨x593, c593, h⟩ := bdS h
        refine x_sI F hX hbl hsb c593 dL_law__593 ?_
        refine x_aload_n F dL_law__594 rfl 0 rfl ?_
        refine x_iload F dL_law__595 4 rfl ?_
        refine x_iconst F (v := 2) dL_law__597 (by decide) ?_
        refine x_iadd F dL_law__598 ?_
        obtain ⟨x599, c599, h⟩ := bdS h
        refine x_sI F hX hbl hsb c599 dL_law__599 ?_
        obtain ⟨k600, h⟩ := gdS h
        obtain ⟨⟨x600, M600⟩, c600, h⟩ := bdS h
        dsimp only at h
        refine x_callV F (As := [.int x593, .int x599]) (rest := [.int x584]) (res := (some (.int x600))) (ci := 11) (q := (RX11, TX11, 45)) rfl (by decide) k600 (k_X11_writer l b D cy N v2 x593 x599 M584 _ _ c600) wl_1350 wl_1351 wl_1352 wl_854 wl_1064 hd_X11_writer ⟨Nat.le_of_ble_eq_true rfl, Nat.le_of_ble_eq_true rfl⟩ ⟨hc0, hs0⟩ (Nat.le_of_ble_eq_true rfl) rfl dL_law__600 ?_
        refine x_icmp_eq F (tgt := 1306) dL_law__603 (by decide) (fun c603 => ?_) (fun c603 => ?_)
        · rw [if_pos c603] at h
          refine x_iinc F (v := v4 + 6) (lv' := [(4, .int (v4 + 6)), (0, .ref sb), (1, .ref (b + v1)), (2, .ref (b + v2)), (3, .ref (b + v3))]) dL_law__1306 4 rfl rfl (by decide) rfl ?_
          refine x_goto F (tgt := 23) dL_law__1309 (by decide) ?_
          refine x_sub [1, 2, 3, 4, 0] rfl ?_
          exact ih cz cs (by omega) (by omega) (v4 + 6) M600 o h hR
        · rw [if_neg c603] at h
          refine x_iconst F (v := 0) dL_law__606 (by decide) ?_
          obtain rfl := Option.some.inj h
          obtain ⟨hr1, rfl⟩ := hR _ _ rfl
          exact absurd hr1 (by decide)
      rw [if_neg c40_9] at h
      by_cases c40_10 : (x36 &&& 63) = 10
      · rw [if_pos c40_10] at h
        refine x_tableIn F (off := 568) (tgt := 608) dL_law__40 (by rw [c40_10]; decide) (by rw [c40_10]; decide) (by rw [c40_10]; decide) (by decide) ?_
        refine x_aload_n F dL_law__608 rfl 1 rfl ?_
        refine x_aload_n F dL_law__609 rfl 0 rfl ?_
        refine x_iload F dL_law__610 4 rfl ?_
        refine x_iconst F (v := 1) dL_law__612 (by decide) ?_
        refine x_iadd F dL_law__613 ?_
        obtain ⟨x614, c614, h⟩ := bdS h
        refine x_sI F hX hbl hsb c614 dL_law__614 ?_
        obtain ⟨k615, h⟩ := gdS h
        obtain ⟨⟨x615, M615⟩, c615, h⟩ := bdS h
        dsimp only at h
        refine x_callV F (As := [.int x614]) (rest := []) (res := (some (.int x615))) (ci := 10) (q := (RX10, TX10, 19)) rfl (by decide) k615 (k_X10_now l b D cy N v1 x614 M _ _ c615) wl_1353 wl_1354 wl_1355 wl_31 wl_740 hd_X10_now ⟨Nat.le_of_ble_eq_true rfl, Nat.le_of_ble_eq_true rfl⟩ ⟨hc0, hs0⟩ (Nat.le_of_ble_eq_true rfl) rfl dL_law__615 ?_
        refine x_aload_n F dL_law__618 rfl 2 rfl ?_
        refine x_aload_n F dL_law__619 rfl 0 rfl ?_
        refine x_iload F dL_law__620 4 rfl ?_
        refine x_iconst F (v := 1) dL_law__622 (by decide) ?_
        refine x_iadd F dL_law__623 ?_
        obtain ⟨x624, c624, h⟩ := bdS h
        refine x_sI F hX hbl hsb c624 dL_law__624 ?_
        obtain ⟨k625, h⟩ := gdS h
        obtain ⟨⟨x625, M625⟩, c625, h⟩ := bdS h
        dsimp only at h
        refine x_callV F (As := [.int x624]) (rest := [.int x615]) (res := (some (.int x625))) (ci := 11) (q := (RX11, TX11, 45)) rfl (by decide) k625 (k_X11_now l b D cy N v2 x624 M615 _ _ c625) wl_1356 wl_1357 wl_1358 wl_854 wl_1068 hd_X11_now ⟨Nat.le_of_ble_eq_true rfl, Nat.le_of_ble_eq_true rfl⟩ ⟨hc0, hs0⟩ (Nat.le_of_ble_eq_true rfl) rfl dL_law__625 ?_
        refine x_icmp_eq F (tgt := 1306) dL_law__628 (by decide) (fun c628 => ?_) (fun c628 => ?_)
        · rw [if_pos c628] at h
          refine x_iinc F (v := v4 + 6) (lv' := [(4, .int (v4 + 6)), (0, .ref sb), (1, .ref (b + v1)), (2, .ref (b + v2)), (3, .ref (b + v3))]) dL_law__1306 4 rfl rfl (by decide) rfl ?_
          refine x_goto F (tgt := 23) dL_law__1309 (by decide) ?_
          refine x_sub [1, 2, 3, 4, 0] rfl ?_
          exact ih cz cs (by omega) (by omega) (v4 + 6) M625 o h hR
        · rw [if_neg c628] at h
          refine x_iconst F (v := 0) dL_law__631 (by decide) ?_
          obtain rfl := Option.some.inj h
          obtain ⟨hr1, rfl⟩ := hR _ _ rfl
          exact absurd hr1 (by decide)
      rw [if_neg c40_10] at h
      by_cases c40_11 : (x36 &&& 63) = 11
      · rw [if_pos c40_11] at h
        refine x_tableIn F (off := 593) (tgt := 633) dL_law__40 (by rw [c40_11]; decide) (by rw [c40_11]; decide) (by rw [c40_11]; decide) (by decide) ?_
        refine x_aload_n F dL_law__633 rfl 1 rfl ?_
        refine x_aload_n F dL_law__634 rfl 0 rfl ?_
        refine x_iload F dL_law__635 4 rfl ?_
        refine x_iconst F (v := 1) dL_law__637 (by decide) ?_
        refine x_iadd F dL_law__638 ?_
        obtain ⟨x639, c639, h⟩ := bdS h
        refine x_sI F hX hbl hsb c639 dL_law__639 ?_
        refine x_aload_n F dL_law__640 rfl 0 rfl ?_
        refine x_iload F dL_law__641 4 rfl ?_
        refine x_iconst F (v := 2) dL_law__643 (by decide) ?_
        refine x_iadd F dL_law__644 ?_
        obtain ⟨x645, c645, h⟩ := bdS h
        refine x_sI F hX hbl hsb c645 dL_law__645 ?_
        refine x_aload_n F dL_law__646 rfl 0 rfl ?_
        refine x_iload F dL_law__647 4 rfl ?_
        refine x_iconst F (v := 3) dL_law__649 (by decide) ?_
        refine x_iadd F dL_law__650 ?_
        obtain ⟨x651, c651, h⟩ := bdS h
        refine x_sI F hX hbl hsb c651 dL_law__651 ?_
        refine x_aload_n F dL_law__652 rfl 0 rfl ?_
        refine x_iload F dL_law__653 4 rfl ?_
        refine x_iconst F (v := 4) dL_law__655 (by decide) ?_
        refine x_iadd F dL_law__656 ?_
        obtain ⟨x657, c657, h⟩ := bdS h
        refine x_sI F hX hbl hsb c657 dL_law__657 ?_
        obtain ⟨k658, h⟩ := gdS h
        obtain ⟨⟨x658, M658⟩, c658, h⟩ := bdS h
        dsimp only at h
        refine x_callV F (As := [.int x639, .int x645, .int x651, .int x657]) (rest := []) (res := (some (.int x658))) (ci := 10) (q := (RX10, TX10, 19)) rfl (by decide) k658 (k_X10_write l b D cy N v1 x639 x645 x651 x657 M _ _ c658) wl_1359 wl_1360 wl_1361 wl_31 wl_752 hd_X10_write ⟨Nat.le_of_ble_eq_true rfl, Nat.le_of_ble_eq_true rfl⟩ ⟨hc0, hs0⟩ (Nat.le_of_ble_eq_true rfl) rfl dL_law__658 ?_
        refine x_aload_n F dL_law__661 rfl 2 rfl ?_
        refine x_aload_n F dL_law__662 rfl 0 rfl ?_
        refine x_iload F dL_law__663 4 rfl ?_
        refine x_iconst F (v := 1) dL_law__665 (by decide) ?_
        refine x_iadd F dL_law__666 ?_
        obtain ⟨x667, c667, h⟩ := bdS h
        refine x_sI F hX hbl hsb c667 dL_law__667 ?_
        refine x_aload_n F dL_law__668 rfl 0 rfl ?_
        refine x_iload F dL_law__669 4 rfl ?_
        refine x_iconst F (v := 2) dL_law__671 (by decide) ?_
        refine x_iadd F dL_law__672 ?_
        obtain ⟨x673, c673, h⟩ := bdS h
        refine x_sI F hX hbl hsb c673 dL_law__673 ?_
        refine x_aload_n F dL_law__674 rfl 0 rfl ?_
        refine x_iload F dL_law__675 4 rfl ?_
        refine x_iconst F (v := 3) dL_law__677 (by decide) ?_
        refine x_iadd F dL_law__678 ?_
        obtain ⟨x679, c679, h⟩ := bdS h
        refine x_sI F hX hbl hsb c679 dL_law__679 ?_
        refine x_aload_n F dL_law__680 rfl 0 rfl ?_
        refine x_iload F dL_law__681 4 rfl ?_
        refine x_iconst F (v := 4) dL_law__683 (by decide) ?_
        refine x_iadd F dL_law__684 ?_
        obtain ⟨x685, c685, h⟩ := bdS h
        refine x_sI F hX hbl hsb c685 dL_law__685 ?_
        obtain ⟨k686, h⟩ := gdS h
        obtain ⟨⟨x686, M686⟩, c686, h⟩ := bdS h
        dsimp only at h
        refine x_callV F (As := [.int x667, .int x673, .int x679, .int x685]) (rest := [.int x658]) (res := (some (.int x686))) (ci := 11) (q := (RX11, TX11, 45)) rfl (by decide) k686 (k_X11_write l b D cy N v2 x667 x673 x679 x685 M658 _ _ c686) wl_1362 wl_1363 wl_1364 wl_854 wl_1083 hd_X11_write ⟨Nat.le_of_ble_eq_true rfl, Nat.le_of_ble_eq_true rfl⟩ ⟨hc0, hs0⟩ (Nat.le_of_ble_eq_true rfl) rfl dL_law__686 ?_
        refine x_icmp_eq F (tgt := 1306) dL_law__689 (by decide) (fun c689 => ?_) (fun c689 => ?_)
        · rw [if_pos c689] at h
          refine x_iinc F (v := v4 + 6) (lv' := [(4, .int (v4 + 6)), (0, .ref sb), (1, .ref (b + v1)), (2, .ref (b + v2)), (3, .ref (b + v3))]) dL_law__1306 4 rfl rfl (by decide) rfl ?_
          refine x_goto F (tgt := 23) dL_law__1309 (by decide) ?_
          refine x_sub [1, 2, 3, 4, 0] rfl ?_
          exact ih cz cs (by omega) (by omega) (v4 + 6) M686 o h hR
        · rw [if_neg c689] at h
          refine x_iconst F (v := 0) dL_law__692 (by decide) ?_
          obtain rfl := Option.some.inj h
          obtain ⟨hr1, rfl⟩ := hR _ _ rfl
          exact absurd hr1 (by decide)
      rw [if_neg c40_11] at h
      by_cases c40_12 : (x36 &&& 63) = 12
      · rw [if_pos c40_12] at h
        refine x_tableIn F (off := 654) (tgt := 694) dL_law__40 (by rw [c40_12]; decide) (by rw [c40_12]; decide) (by rw [c40_12]; decide) (by decide) ?_
        refine x_aload_n F dL_law__694 rfl 1 rfl ?_
        refine x_aload_n F dL_law__695 rfl 0 rfl ?_
        refine x_iload F dL_law__696 4 rfl ?_
        refine x_iconst F (v := 1) dL_law__698 (by decide) ?_
        refine x_iadd F dL_law__699 ?_
        obtain ⟨x700, c700, h⟩ := bdS h
        refine x_sI F hX hbl hsb c700 dL_law__700 ?_
        refine x_aload_n F dL_law__701 rfl 0 rfl ?_
        refine x_iload F dL_law__702 4 rfl ?_
        refine x_iconst F (v := 2) dL_law__704 (by decide) ?_
        refine x_iadd F dL_law__705 ?_
        obtain ⟨x706, c706, h⟩ := bdS h
        refine x_sI F hX hbl hsb c706 dL_law__706 ?_
        obtain ⟨k707, h⟩ := gdS h
        obtain ⟨⟨x707, M707⟩, c707, h⟩ := bdS h
        dsimp only at h
        refine x_callV F (As := [.int x700, .int x706]) (rest := []) (res := (some (.int x707))) (ci := 10) (q := (RX10, TX10, 19)) rfl (by decide) k707 (k_X10_tread l b D cy N v1 x700 x706 M _ _ c707) wl_1365 wl_1366 wl_1367 wl_31 wl_755 hd_X10_tread ⟨Nat.le_of_ble_eq_true rfl, Nat.le_of_ble_eq_true rfl⟩ ⟨hc0, hs0⟩ (Nat.le_of_ble_eq_true rfl) rfl dL_law__707 ?_
        refine x_aload_n F dL_law__710 rfl 2 rfl ?_
        refine x_aload_n F dL_law__711 rfl 0 rfl ?_
        refine x_iload F dL_law__712 4 rfl ?_
        refine x_iconst F (v := 1) dL_law__714 (by decide) ?_
        refine x_iadd F dL_law__715 ?_
        obtain ⟨x716, c716, h⟩ := bdS h
        refine x_sI F hX hbl hsb c716 dL_law__716 ?_
        refine x_aload_n F dL_law__717 rfl 0 rfl ?_
        refine x_iload F dL_law__718 4 rfl ?_
        refine x_iconst F (v := 2) dL_law__720 (by decide) ?_
        refine x_iadd F dL_law__721 ?_
        obtain ⟨x722, c722, h⟩ := bdS h
        refine x_sI F hX hbl hsb c722 dL_law__722 ?_
        obtain ⟨k723, h⟩ := gdS h
        obtain ⟨⟨x723, M723⟩, c723, h⟩ := bdS h
        dsimp only at h
        refine x_callV F (As := [.int x716, .int x722]) (rest := [.int x707]) (res := (some (.int x723))) (ci := 11) (q := (RX11, TX11, 45)) rfl (by decide) k723 (k_X11_tread l b D cy N v2 x716 x722 M707 _ _ c723) wl_1368 wl_1369 wl_1370 wl_854 wl_1090 hd_X11_tread ⟨Nat.le_of_ble_eq_true rfl, Nat.le_of_ble_eq_true rfl⟩ ⟨hc0, hs0⟩ (Nat.le_of_ble_eq_true rfl) rfl dL_law__723 ?_
        refine x_icmp_eq F (tgt := 1306) dL_law__726 (by decide) (fun c726 => ?_) (fun c726 => ?_)
        · rw [if_pos c726] at h
          refine x_iinc F (v := v4 + 6) (lv' := [(4, .int (v4 + 6)), (0, .ref sb), (1, .ref (b + v1)), (2, .ref (b + v2)), (3, .ref (b + v3))]) dL_law__1306 4 rfl rfl (by decide) rfl ?_
          refine x_goto F (tgt := 23) dL_law__1309 (by decide) ?_
          refine x_sub [1, 2, 3, 4, 0] rfl ?_
          exact ih cz cs (by omega) (by omega) (v4 + 6) M723 o h hR
        · rw [if_neg c726] at h
          refine x_iconst F (v := 0) dL_law__729 (by decide) ?_
          obtain rfl := Option.some.inj h
          obtain ⟨hr1, rfl⟩ := hR _ _ rfl
          exact absurd hr1 (by decide)
      rw [if_neg c40_12] at h
      by_cases c40_13 : (x36 &&& 63) = 13
      · rw [if_pos c40_13] at h
        refine x_tableIn F (off := 691) (tgt := 731) dL_law__40 (by rw [c40_13]; decide) (by rw [c40_13]; decide) (by rw [c40_13]; decide) (by decide) ?_
        refine x_aload_n F dL_law__731 rfl 1 rfl ?_
        refine x_aload_n F dL_law__732 rfl 0 rfl ?_
        refine x_iload F dL_law__733 4 rfl ?_
        refine x_iconst F (v := 1) dL_law__735 (by decide) ?_
        refine x_iadd F dL_law__736 ?_
        obtain ⟨x737, c737, h⟩ := bdS h
        refine x_sI F hX hbl hsb c737 dL_law__737 ?_
        obtain ⟨k738, h⟩ := gdS h
        obtain ⟨⟨x738, M738⟩, c738, h⟩ := bdS h
        dsimp only at h
        refine x_callV F (As := [.int x737]) (rest := []) (res := (some (.int x738))) (ci := 10) (q := (RX10, TX10, 19)) rfl (by decide) k738 (k_X10_hours l b D cy N v1 x737 M _ _ c738) wl_1371 wl_1372 wl_1373 wl_31 wl_759 hd_X10_hours ⟨Nat.le_of_ble_eq_true rfl, Nat.le_of_ble_eq_true rfl⟩ ⟨hc0, hs0⟩ (Nat.le_of_ble_eq_true rfl) rfl dL_law__738 ?_
        refine x_aload_n F dL_law__741 rfl 2 rfl ?_
        refine x_aload_n F dL_law__742 rfl 0 rfl ?_
        refine x_iload F dL_law__743 4 rfl ?_
        refine x_iconst F (v := 1) dL_law__745 (by decide) ?_
        refine x_iadd F dL_law__746 ?_
        obtain ⟨x747, c747, h⟩ := bdS h
        refine x_sI F hX hbl hsb c747 dL_law__747 ?_
        obtain ⟨k748, h⟩ := gdS h
        obtain ⟨⟨x748, M748⟩, c748, h⟩ := bdS h
        dsimp only at h
        refine x_callV F (As := [.int x747]) (rest := [.int x738]) (res := (some (.int x748))) (ci := 11) (q := (RX11, TX11, 45)) rfl (by decide) k748 (k_X11_hours l b D cy N v2 x747 M738 _ _ c748) wl_1374 wl_1375 wl_1376 wl_854 wl_1111 hd_X11_hours ⟨Nat.le_of_ble_eq_true rfl, Nat.le_of_ble_eq_true rfl⟩ ⟨hc0, hs0⟩ (Nat.le_of_ble_eq_true rfl) rfl dL_law__748 ?_
        refine x_icmp_eq F (tgt := 1306) dL_law__751 (by decide) (fun c751 => ?_) (fun c751 => ?_)
        · rw [if_pos c751] at h
          refine x_iinc F (v := v4 + 6) (lv' := [(4, .int (v4 + 6)), (0, .ref sb), (1, .ref (b + v1)), (2, .ref (b + v2)), (3, .ref (b + v3))]) dL_law__1306 4 rfl rfl (by decide) rfl ?_
          refine x_goto F (tgt := 23) dL_law__1309 (by decide) ?_
          refine x_sub [1, 2, 3, 4, 0] rfl ?_
          exact ih cz cs (by omega) (by omega) (v4 + 6) M748 o h hR
        · rw [if_neg c751] at h
          refine x_iconst F (v := 0) dL_law__754 (by decide) ?_
          obtain rfl := Option.some.inj h
          obtain ⟨hr1, rfl⟩ := hR _ _ rfl
          exact absurd hr1 (by decide)
      rw [if_neg c40_13] at h
      by_cases c40_14 : (x36 &&& 63) = 14
      · rw [if_pos c40_14] at h
        refine x_tableIn F (off := 716) (tgt := 756) dL_law__40 (by rw [c40_14]; decide) (by rw [c40_14]; decide) (by rw [c40_14]; decide) (by decide) ?_
        refine x_aload_n F dL_law__756 rfl 1 rfl ?_
        obtain ⟨k757, h⟩ := gdS h
        obtain ⟨⟨x757, M757⟩, c757, h⟩ := bdS h
        dsimp only at h
        refine x_callV F (As := []) (rest := []) (res := (some (.int x757))) (ci := 10) (q := (RX10, TX10, 19)) rfl (by decide) k757 (k_X10_undo l b D cy N v1 M _ _ c757) wl_1377 wl_1378 wl_1379 wl_31 wl_764 hd_X10_undo ⟨Nat.le_of_ble_eq_true rfl, Nat.le_of_ble_eq_true rfl⟩ ⟨hc0, hs0⟩ (Nat.le_of_ble_eq_true rfl) rfl dL_law__757 ?_
        refine x_aload_n F dL_law__760 rfl 2 rfl ?_
        obtain ⟨k761, h⟩ := gdS h
        obtain ⟨⟨x761, M761⟩, c761, h⟩ := bdS h
        dsimp only at h
        refine x_callV F (As := []) (rest := [.int x757]) (res := (some (.int x761))) (ci := 11) (q := (RX11, TX11, 45)) rfl (by decide) k761 (k_X11_undo l b D cy N v2 M757 _ _ c761) wl_1380 wl_1381 wl_1382 wl_854 wl_1091 hd_X11_undo ⟨Nat.le_of_ble_eq_true rfl, Nat.le_of_ble_eq_true rfl⟩ ⟨hc0, hs0⟩ (Nat.le_of_ble_eq_true rfl) rfl dL_law__761 ?_
        refine x_icmp_eq F (tgt := 1306) dL_law__764 (by decide) (fun c764 => ?_) (fun c764 => ?_)
        · rw [if_pos c764] at h
          refine x_iinc F (v := v4 + 6) (lv' := [(4, .int (v4 + 6)), (0, .ref sb), (1, .ref (b + v1)), (2, .ref (b + v2)), (3, .ref (b + v3))]) dL_law__1306 4 rfl rfl (by decide) rfl ?_
          refine x_goto F (tgt := 23) dL_law__1309 (by decide) ?_
          refine x_sub [1, 2, 3, 4, 0] rfl ?_
          exact ih cz cs (by omega) (by omega) (v4 + 6) M761 o h hR
        · rw [if_neg c764] at h
          refine x_iconst F (v := 0) dL_law__767 (by decide) ?_
          obtain rfl := Option.some.inj h
          obtain ⟨hr1, rfl⟩ := hR _ _ rfl
          exact absurd hr1 (by decide)
      rw [if_neg c40_14] at h
      by_cases c40_15 : (x36 &&& 63) = 15
      · rw [if_pos c40_15] at h
        refine x_tableIn F (off := 729) (tgt := 769) dL_law__40 (by rw [c40_15]; decide) (by rw [c40_15]; decide) (by rw [c40_15]; decide) (by decide) ?_
        refine x_aload_n F dL_law__769 rfl 1 rfl ?_
        refine x_aload_n F dL_law__770 rfl 0 rfl ?_
        refine x_iload F dL_law__771 4 rfl ?_
        refine x_iconst F (v := 1) dL_law__773 (by decide) ?_
        refine x_iadd F dL_law__774 ?_
        obtain ⟨x775, c775, h⟩ := bdS h
        refine x_sI F hX hbl hsb c775 dL_law__775 ?_
        obtain ⟨k776, h⟩ := gdS h
        obtain ⟨⟨x776, M776⟩, c776, h⟩ := bdS h
        dsimp only at h
        refine x_callV F (As := [.int x775]) (rest := []) (res := (some (.int x776))) (ci := 10) (q := (RX10, TX10, 19)) rfl (by decide) k776 (k_X10_fits l b D cy N v1 x775 M _ _ c776) wl_1383 wl_1384 wl_1385 wl_31 wl_773 hd_X10_fits ⟨Nat.le_of_ble_eq_true rfl, Nat.le_of_ble_eq_true rfl⟩ ⟨hc0, hs0⟩ (Nat.le_of_ble_eq_true rfl) rfl dL_law__776 ?_
        refine x_aload_n F dL_law__779 rfl 2 rfl ?_
        refine x_aload_n F dL_law__780 rfl 0 rfl ?_
        refine x_iload F dL_law__781 4 rfl ?_
        refine x_iconst F (v := 1) dL_law__783 (by decide) ?_
        refine x_iadd F dL_law__784 ?_
        obtain ⟨x785, c785, h⟩ := bdS h
        refine x_sI F hX hbl hsb c785 dL_law__785 ?_
        obtain ⟨k786, h⟩ := gdS h
        obtain ⟨⟨x786, M786⟩, c786, h⟩ := bdS h
        dsimp only at h
        refine x_callV F (As := [.int x785]) (rest := [.int x776]) (res := (some (.int x786))) (ci := 11) (q := (RX11, TX11, 45)) rfl (by decide) k786 (k_X11_fits l b D cy N v2 x785 M776 _ _ c786) wl_1386 wl_1387 wl_1388 wl_854 wl_1116 hd_X11_fits ⟨Nat.le_of_ble_eq_true rfl, Nat.le_of_ble_eq_true rfl⟩ ⟨hc0, hs0⟩ (Nat.le_of_ble_eq_true rfl) rfl dL_law__786 ?_
        refine x_icmp_eq F (tgt := 1306) dL_law__789 (by decide) (fun c789 => ?_) (fun c789 => ?_)
        · rw [if_pos c789] at h
          refine x_iinc F (v := v4 + 6) (lv' := [(4, .int (v4 + 6)), (0, .ref sb), (1, .ref (b + v1)), (2, .ref (b + v2)), (3, .ref (b + v3))]) dL_law__1306 4 rfl rfl (by decide) rfl ?_
          refine x_goto F (tgt := 23) dL_law__1309 (by decide) ?_
          refine x_sub [1, 2, 3, 4, 0] rfl ?_
          exact ih cz cs (by omega) (by omega) (v4 + 6) M786 o h hR
        · rw [if_neg c789] at h
          refine x_iconst F (v := 0) dL_law__792 (by decide) ?_
          obtain rfl := Option.some.inj h
          obtain ⟨hr1, rfl⟩ := hR _ _ rfl
          exact absurd hr1 (by decide)
      rw [if_neg c40_15] at h
      by_cases c40_16 : (x36 &&& 63) = 16
      · rw [if_pos c40_16] at h
        refine x_tableIn F (off := 754) (tgt := 794) dL_law__40 (by rw [c40_16]; decide) (by rw [c40_16]; decide) (by rw [c40_16]; decide) (by decide) ?_
        refine x_aload_n F dL_law__794 rfl 1 rfl ?_
        refine x_aload_n F dL_law__795 rfl 0 rfl ?_
        refine x_iload F dL_law__796 4 rfl ?_
        refine x_iconst F (v := 1) dL_law__798 (by decide) ?_
        refine x_iadd F dL_law__799 ?_
        obtain ⟨x800, c800, h⟩ := bdS h
        refine x_sI F hX hbl hsb c800 dL_law__800 ?_
        obtain ⟨k801, h⟩ := gdS h
        obtain ⟨⟨x801, M801⟩, c801, h⟩ := bdS h
        dsimp only at h
        refine x_callV F (As := [.int x800]) (rest := []) (res := (some (.int x801))) (ci := 10) (q := (RX10, TX10, 19)) rfl (by decide) k801 (k_X10_ask l b D cy N v1 x800 M _ _ c801) wl_1389 wl_1390 wl_1391 wl_31 wl_777 hd_X10_ask ⟨Nat.le_of_ble_eq_true rfl, Nat.le_of_ble_eq_true rfl⟩ ⟨hc0, hs0⟩ (Nat.le_of_ble_eq_true rfl) rfl dL_law__801 ?_
        refine x_aload_n F dL_law__804 rfl 2 rfl ?_
        refine x_aload_n F dL_law__805 rfl 0 rfl ?_
        refine x_iload F dL_law__806 4 rfl ?_
        refine x_iconst F (v := 1) dL_law__808 (by decide) ?_
        refine x_iadd F dL_law__809 ?_
        obtain ⟨x810, c810, h⟩ := bdS h
        refine x_sI F hX hbl hsb c810 dL_law__810 ?_
        obtain ⟨k811, h⟩ := gdS h
        obtain ⟨⟨x811, M811⟩, c811, h⟩ := bdS h
        dsimp only at h
        refine x_callV F (As := [.int x810]) (rest := [.int x801]) (res := (some (.int x811))) (ci := 11) (q := (RX11, TX11, 45)) rfl (by decide) k811 (k_X11_ask l b D cy N v2 x810 M801 _ _ c811) wl_1392 wl_1393 wl_1394 wl_854 wl_1123 hd_X11_ask ⟨Nat.le_of_ble_eq_true rfl, Nat.le_of_ble_eq_true rfl⟩ ⟨hc0, hs0⟩ (Nat.le_of_ble_eq_true rfl) rfl dL_law__811 ?_
        refine x_icmp_eq F (tgt := 1306) dL_law__814 (by decide) (fun c814 => ?_) (fun c814 => ?_)
        · rw [if_pos c814] at h
          refine x_iinc F (v := v4 + 6) (lv' := [(4, .int (v4 + 6)), (0, .ref sb), (1, .ref (b + v1)), (2, .ref (b + v2)), (3, .ref (b + v3))]) dL_law__1306 4 rfl rfl (by decide) rfl ?_
          refine x_goto F (tgt := 23) dL_law__1309 (by decide) ?_
          refine x_sub [1, 2, 3, 4, 0] rfl ?_
          exact ih cz cs (by omega) (by omega) (v4 + 6) M811 o h hR
        · rw [if_neg c814] at h
          refine x_iconst F (v := 0) dL_law__817 (by decide) ?_
          obtain rfl := Option.some.inj h
          obtain ⟨hr1, rfl⟩ := hR _ _ rfl
          exact absurd hr1 (by decide)
      rw [if_neg c40_16] at h
      by_cases c40_17 : (x36 &&& 63) = 17
      · rw [if_pos c40_17] at h
        refine x_tableIn F (off := 779) (tgt := 819) dL_law__40 (by rw [c40_17]; decide) (by rw [c40_17]; decide) (by rw [c40_17]; decide) (by decide) ?_
        refine x_aload_n F dL_law__819 rfl 1 rfl ?_
        refine x_aload_n F dL_law__820 rfl 0 rfl ?_
        refine x_iload F dL_law__821 4 rfl ?_
        refine x_iconst F (v := 1) dL_law__823 (by decide) ?_
        refine x_iadd F dL_law__824 ?_
        obtain ⟨x825, c825, h⟩ := bdS h
        refine x_sI F hX hbl hsb c825 dL_law__825 ?_
        obtain ⟨k826, h⟩ := gdS h
        obtain ⟨⟨x826, M826⟩, c826, h⟩ := bdS h
        dsimp only at h
        refine x_callV F (As := [.int x825]) (rest := []) (res := (some (.int x826))) (ci := 10) (q := (RX10, TX10, 19)) rfl (by decide) k826 (k_X10_dry l b D cy N v1 x825 M _ _ c826) wl_1395 wl_1396 wl_1397 wl_31 wl_781 hd_X10_dry ⟨Nat.le_of_ble_eq_true rfl, Nat.le_of_ble_eq_true rfl⟩ ⟨hc0, hs0⟩ (Nat.le_of_ble_eq_true rfl) rfl dL_law__826 ?_
        refine x_aload_n F dL_law__829 rfl 2 rfl ?_
        refine x_aload_n F dL_law__830 rfl 0 rfl ?_
        refine x_iload F dL_law__831 4 rfl ?_
        refine x_iconst F (v := 1) dL_law__833 (by decide) ?_
        refine x_iadd F dL_law__834 ?_
        obtain ⟨x835, c835, h⟩ := bdS h
        refine x_sI F hX hbl hsb c835 dL_law__835 ?_
        obtain ⟨k836, h⟩ := gdS h
        obtain ⟨⟨x836, M836⟩, c836, h⟩ := bdS h
        dsimp only at h
        refine x_callV F (As := [.int x835]) (rest := [.int x826]) (res := (some (.int x836))) (ci := 11) (q := (RX11, TX11, 45)) rfl (by decide) k836 (k_X11_dry l b D cy N v2 x835 M826 _ _ c836) wl_1398 wl_1399 wl_1400 wl_854 wl_1125 hd_X11_dry ⟨Nat.le_of_ble_eq_true rfl, Nat.le_of_ble_eq_true rfl⟩ ⟨hc0, hs0⟩ (Nat.le_of_ble_eq_true rfl) rfl dL_law__836 ?_
        refine x_icmp_eq F (tgt := 1306) dL_law__839 (by decide) (fun c839 => ?_) (fun c839 => ?_)
        · rw [if_pos c839] at h
          refine x_iinc F (v := v4 + 6) (lv' := [(4, .int (v4 + 6)), (0, .ref sb), (1, .ref (b + v1)), (2, .ref (b + v2)), (3, .ref (b + v3))]) dL_law__1306 4 rfl rfl (by decide) rfl ?_
          refine x_goto F (tgt := 23) dL_law__1309 (by decide) ?_
          refine x_sub [1, 2, 3, 4, 0] rfl ?_
          exact ih cz cs (by omega) (by omega) (v4 + 6) M836 o h hR
        · rw [if_neg c839] at h
          refine x_iconst F (v := 0) dL_law__842 (by decide) ?_
          obtain rfl := Option.some.inj h
          obtain ⟨hr1, rfl⟩ := hR _ _ rfl
          exact absurd hr1 (by decide)
      rw [if_neg c40_17] at h
      by_cases c40_18 : (x36 &&& 63) = 18
      · rw [if_pos c40_18] at h
        refine x_tableIn F (off := 804) (tgt := 844) dL_law__40 (by rw [c40_18]; decide) (by rw [c40_18]; decide) (by rw [c40_18]; decide) (by decide) ?_
        refine x_aload_n F dL_law__844 rfl 1 rfl ?_
        refine x_aload_n F dL_law__845 rfl 0 rfl ?_
        refine x_iload F dL_law__846 4 rfl ?_
        refine x_iconst F (v := 1) dL_law__848 (by decide) ?_
        refine x_iadd F dL_law__849 ?_
        obtain ⟨x850, c850, h⟩ := bdS h
        refine x_sI F hX hbl hsb c850 dL_law__850 ?_
        refine x_aload_n F dL_law__851 rfl 0 rfl ?_
        refine x_iload F dL_law__852 4 rfl ?_
        refine x_iconst F (v := 2) dL_law__854 (by decide) ?_
        refine x_iadd F dL_law__855 ?_
        obtain ⟨x856, c856, h⟩ := bdS h
        refine x_sI F hX hbl hsb c856 dL_law__856 ?_
        obtain ⟨k857, h⟩ := gdS h
        obtain ⟨⟨x857, M857⟩, c857, h⟩ := bdS h
        dsimp only at h
        refine x_callV F (As := [.int x850, .int x856]) (rest := []) (res := (some (.int x857))) (ci := 10) (q := (RX10, TX10, 19)) rfl (by decide) k857 (k_X10_keep l b D cy N v1 x850 x856 M _ _ c857) wl_1401 wl_1402 wl_1403 wl_31 wl_785 hd_X10_keep ⟨Nat.le_of_ble_eq_true rfl, Nat.le_of_ble_eq_true rfl⟩ ⟨hc0, hs0⟩ (Nat.le_of_ble_eq_true rfl) rfl dL_law__857 ?_
        refine x_aload_n F dL_law__860 rfl 2 rfl ?_
        refine x_aload_n F dL_law__861 rfl 0 rfl ?_
        refine x_iload F dL_law__862 4 rfl ?_
        refine x_iconst F (v := 1) dL_law__864 (by decide) ?_
        refine x_iadd F dL_law__865 ?_
        obtain ⟨x866, c866, h⟩ := bdS h
        refine x_sI F hX hbl hsb c866 dL_law__866 ?_
        refine x_aload_n F dL_law__867 rfl 0 rfl ?_
        refine x_iload F dL_law__868 4 rfl ?_
        refine x_iconst F (v := 2) dL_law__870 (by decide) ?_
        refine x_iadd F dL_law__871 ?_
        obtain ⟨x872, c872, h⟩ := bdS h
        refine x_sI F hX hbl hsb c872 dL_law__872 ?_
        obtain ⟨k873, h⟩ := gdS h
        obtain ⟨⟨x873, M873⟩, c873, h⟩ := bdS h
        dsimp only at h
        refine x_callV F (As := [.int x866, .int x872]) (rest := [.int x857]) (res := (some (.int x873))) (ci := 11) (q := (RX11, TX11, 45)) rfl (by decide) k873 (k_X11_keep l b D cy N v2 x866 x872 M857 _ _ c873) wl_1404 wl_1405 wl_1406 wl_854 wl_1140 hd_X11_keep ⟨Nat.le_of_ble_eq_true rfl, Nat.le_of_ble_eq_true rfl⟩ ⟨hc0, hs0⟩ (Nat.le_of_ble_eq_true rfl) rfl dL_law__873 ?_
        refine x_icmp_eq F (tgt := 1306) dL_law__876 (by decide) (fun c876 => ?_) (fun c876 => ?_)
        · rw [if_pos c876] at h
          refine x_iinc F (v := v4 + 6) (lv' := [(4, .int (v4 + 6)), (0, .ref sb), (1, .ref (b + v1)), (2, .ref (b + v2)), (3, .ref (b + v3))]) dL_law__1306 4 rfl rfl (by decide) rfl ?_
          refine x_goto F (tgt := 23) dL_law__1309 (by decide) ?_
          refine x_sub [1, 2, 3, 4, 0] rfl ?_
          exact ih cz cs (by omega) (by omega) (v4 + 6) M873 o h hR
        · rw [if_neg c876] at h
          refine x_iconst F (v := 0) dL_law__879 (by decide) ?_
          obtain rfl := Option.some.inj h
          obtain ⟨hr1, rfl⟩ := hR _ _ rfl
          exact absurd hr1 (by decide)
      rw [if_neg c40_18] at h
      by_cases c40_19 : (x36 &&& 63) = 19
      · rw [if_pos c40_19] at h
        refine x_tableIn F (off := 841) (tgt := 881) dL_law__40 (by rw [c40_19]; decide) (by rw [c40_19]; decide) (by rw [c40_19]; decide) (by decide) ?_
        refine x_aload_n F dL_law__881 rfl 1 rfl ?_
        refine x_aload_n F dL_law__882 rfl 0 rfl ?_
        refine x_iload F dL_law__883 4 rfl ?_
        refine x_iconst F (v := 1) dL_law__885 (by decide) ?_
        refine x_iadd F dL_law__886 ?_
        obtain ⟨x887, c887, h⟩ := bdS h
        refine x_sI F hX hbl hsb c887 dL_law__887 ?_
        obtain ⟨k888, h⟩ := gdS h
        obtain ⟨⟨x888, M888⟩, c888, h⟩ := bdS h
        dsimp only at h
        refine x_callV F (As := [.int x887]) (rest := []) (res := (some (.int x888))) (ci := 10) (q := (RX10, TX10, 19)) rfl (by decide) k888 (k_X10_mend l b D cy N v1 x887 M _ _ c888) wl_1407 wl_1408 wl_1409 wl_31 wl_789 hd_X10_mend ⟨Nat.le_of_ble_eq_true rfl, Nat.le_of_ble_eq_true rfl⟩ ⟨hc0, hs0⟩ (Nat.le_of_ble_eq_true rfl) rfl dL_law__888 ?_
        refine x_aload_n F dL_law__891 rfl 2 rfl ?_
        refine x_aload_n F dL_law__892 rfl 0 rfl ?_
        refine x_iload F dL_law__893 4 rfl ?_
        refine x_iconst F (v := 1) dL_law__895 (by decide) ?_
        refine x_iadd F dL_law__896 ?_
        obtain ⟨x897, c897, h⟩ := bdS h
        refine x_sI F hX hbl hsb c897 dL_law__897 ?_
        obtain ⟨k898, h⟩ := gdS h
        obtain ⟨⟨x898, M898⟩, c898, h⟩ := bdS h
        dsimp only at h
        refine x_callV F (As := [.int x897]) (rest := [.int x888]) (res := (some (.int x898))) (ci := 11) (q := (RX11, TX11, 45)) rfl (by decide) k898 (k_X11_mend l b D cy N v2 x897 M888 _ _ c898) wl_1410 wl_1411 wl_1412 wl_854 wl_1142 hd_X11_mend ⟨Nat.le_of_ble_eq_true rfl, Nat.le_of_ble_eq_true rfl⟩ ⟨hc0, hs0⟩ (Nat.le_of_ble_eq_true rfl) rfl dL_law__898 ?_
        refine x_icmp_eq F (tgt := 1306) dL_law__901 (by decide) (fun c901 => ?_) (fun c901 => ?_)
        · rw [if_pos c901] at h
          refine x_iinc F (v := v4 + 6) (lv' := [(4, .int (v4 + 6)), (0, .ref sb), (1, .ref (b + v1)), (2, .ref (b + v2)), (3, .ref (b + v3))]) dL_law__1306 4 rfl rfl (by decide) rfl ?_
          refine x_goto F (tgt := 23) dL_law__1309 (by decide) ?_
          refine x_sub [1, 2, 3, 4, 0] rfl ?_
          exact ih cz cs (by omega) (by omega) (v4 + 6) M898 o h hR
        · rw [if_neg c901] at h
          refine x_iconst F (v := 0) dL_law__904 (by decide) ?_
          obtain rfl := Option.some.inj h
          obtain ⟨hr1, rfl⟩ := hR _ _ rfl
          exact absurd hr1 (by decide)
      rw [if_neg c40_19] at h
      by_cases c40_20 : (x36 &&& 63) = 20
      · rw [if_pos c40_20] at h
        refine x_tableIn F (off := 866) (tgt := 906) dL_law__40 (by rw [c40_20]; decide) (by rw [c40_20]; decide) (by rw [c40_20]; decide) (by decide) ?_
        refine x_aload_n F dL_law__906 rfl 1 rfl ?_
        refine x_aload_n F dL_law__907 rfl 0 rfl ?_
        refine x_iload F dL_law__908 4 rfl ?_
        refine x_iconst F (v := 1) dL_law__910 (by decide) ?_
        refine x_iadd F dL_law__911 ?_
        obtain ⟨x912, c912, h⟩ := bdS h
        refine x_sI F hX hbl hsb c912 dL_law__912 ?_
        obtain ⟨k913, h⟩ := gdS h
        obtain ⟨⟨x913, M913⟩, c913, h⟩ := bdS h
        dsimp only at h
        refine x_callV F (As := [.int x912]) (rest := []) (res := (some (.int x913))) (ci := 10) (q := (RX10, TX10, 19)) rfl (by decide) k913 (k_X10_mendAt l b D cy N v1 x912 M _ _ c913) wl_1413 wl_1414 wl_1415 wl_31 wl_790 hd_X10_mendAt ⟨Nat.le_of_ble_eq_true rfl, Nat.le_of_ble_eq_true rfl⟩ ⟨hc0, hs0⟩ (Nat.le_of_ble_eq_true rfl) rfl dL_law__913 ?_
        refine x_aload_n F dL_law__916 rfl 2 rfl ?_
        refine x_aload_n F dL_law__917 rfl 0 rfl ?_
        refine x_iload F dL_law__918 4 rfl ?_
        refine x_iconst F (v := 1) dL_law__920 (by decide) ?_
        refine x_iadd F dL_law__921 ?_
        obtain ⟨x922, c922, h⟩ := bdS h
        refine x_sI F hX hbl hsb c922 dL_law__922 ?_
        obtain ⟨k923, h⟩ := gdS h
        obtain ⟨⟨x923, M923⟩, c923, h⟩ := bdS h
        dsimp only at h
        refine x_callV F (As := [.int x922]) (rest := [.int x913]) (res := (some (.int x923))) (ci := 11) (q := (RX11, TX11, 45)) rfl (by decide) k923 (k_X11_mendAt l b D cy N v2 x922 M913 _ _ c923) wl_1416 wl_1417 wl_1418 wl_854 wl_1143 hd_X11_mendAt ⟨Nat.le_of_ble_eq_true rfl, Nat.le_of_ble_eq_true rfl⟩ ⟨hc0, hs0⟩ (Nat.le_of_ble_eq_true rfl) rfl dL_law__923 ?_
        refine x_icmp_eq F (tgt := 1306) dL_law__926 (by decide) (fun c926 => ?_) (fun c926 => ?_)
        · rw [if_pos c926] at h
          refine x_iinc F (v := v4 + 6) (lv' := [(4, .int (v4 + 6)), (0, .ref sb), (1, .ref (b + v1)), (2, .ref (b + v2)), (3, .ref (b + v3))]) dL_law__1306 4 rfl rfl (by decide) rfl ?_
          refine x_goto F (tgt := 23) dL_law__1309 (by decide) ?_
          refine x_sub [1, 2, 3, 4, 0] rfl ?_
          exact ih cz cs (by omega) (by omega) (v4 + 6) M923 o h hR
        · rw [if_neg c926] at h
          refine x_iconst F (v := 0) dL_law__929 (by decide) ?_
          obtain rfl := Option.some.inj h
          obtain ⟨hr1, rfl⟩ := hR _ _ rfl
          exact absurd hr1 (by decide)
      rw [if_neg c40_20] at h
      by_cases c40_21 : (x36 &&& 63) = 21
      · rw [if_pos c40_21] at h
        refine x_tableIn F (off := 891) (tgt := 931) dL_law__40 (by rw [c40_21]; decide) (by rw [c40_21]; decide) (by rw [c40_21]; decide) (by decide) ?_
        refine x_aload_n F dL_law__931 rfl 1 rfl ?_
        obtain ⟨k932, h⟩ := gdS h
        obtain ⟨⟨x932, M932⟩, c932, h⟩ := bdS h
        dsimp only at h
        refine x_callV F (As := []) (rest := []) (res := (some (.int x932))) (ci := 10) (q := (RX10, TX10, 19)) rfl (by decide) k932 (k_X10_room l b D cy N v1 M _ _ c932) wl_1419 wl_1420 wl_1421 wl_31 wl_797 hd_X10_room ⟨Nat.le_of_ble_eq_true rfl, Nat.le_of_ble_eq_true rfl⟩ ⟨hc0, hs0⟩ (Nat.le_of_ble_eq_true rfl) rfl dL_law__932 ?_
        refine x_aload_n F dL_law__935 rfl 2 rfl ?_
        obtain ⟨k936, h⟩ := gdS h
        obtain ⟨⟨x936, M936⟩, c936, h⟩ := bdS h
        dsimp only at h
        refine x_callV F (As := []) (rest := [.int x932]) (res := (some (.int x936))) (ci := 11) (q := (RX11, TX11, 45)) rfl (by decide) k936 (k_X11_room l b D cy N v2 M932 _ _ c936) wl_1422 wl_1423 wl_1424 wl_854 wl_1148 hd_X11_room ⟨Nat.le_of_ble_eq_true rfl, Nat.le_of_ble_eq_true rfl⟩ ⟨hc0, hs0⟩ (Nat.le_of_ble_eq_true rfl) rfl dL_law__936 ?_
        refine x_icmp_eq F (tgt := 1306) dL_law__939 (by decide) (fun c939 => ?_) (fun c939 => ?_)
        · rw [if_pos c939] at h
          refine x_iinc F (v := v4 + 6) (lv' := [(4, .int (v4 + 6)), (0, .ref sb), (1, .ref (b + v1)), (2, .ref (b + v2)), (3, .ref (b + v3))]) dL_law__1306 4 rfl rfl (by decide) rfl ?_
          refine x_goto F (tgt := 23) dL_law__1309 (by decide) ?_
          refine x_sub [1, 2, 3, 4, 0] rfl ?_
          exact ih cz cs (by omega) (by omega) (v4 + 6) M936 o h hR
        · rw [if_neg c939] at h
          refine x_iconst F (v := 0) dL_law__942 (by decide) ?_
          obtain rfl := Option.some.inj h
          obtain ⟨hr1, rfl⟩ := hR _ _ rfl
          exact absurd hr1 (by decide)
      rw [if_neg c40_21] at h
      by_cases c40_22 : (x36 &&& 63) = 22
      · rw [if_pos c40_22] at h
        refine x_tableIn F (off := 904) (tgt := 944) dL_law__40 (by rw [c40_22]; decide) (by rw [c40_22]; decide) (by rw [c40_22]; decide) (by decide) ?_
        refine x_aload_n F dL_law__944 rfl 1 rfl ?_
        refine x_aload_n F dL_law__945 rfl 0 rfl ?_
        refine x_iload F dL_law__946 4 rfl ?_
        refine x_iconst F (v := 1) dL_law__948 (by decide) ?_
        refine x_iadd F dL_law__949 ?_
        obtain ⟨x950, c950, h⟩ := bdS h
        refine x_sI F hX hbl hsb c950 dL_law__950 ?_
        obtain ⟨k951, h⟩ := gdS h
        obtain ⟨⟨x951, M951⟩, c951, h⟩ := bdS h
        dsimp only at h
        refine x_callV F (As := [.int x950]) (rest := []) (res := (some (.int x951))) (ci := 10) (q := (RX10, TX10, 19)) rfl (by decide) k951 (k_X10_roomOf l b D cy N v1 x950 M _ _ c951) wl_1425 wl_1426 wl_1427 wl_31 wl_798 hd_X10_roomOf ⟨Nat.le_of_ble_eq_true rfl, Nat.le_of_ble_eq_true rfl⟩ ⟨hc0, hs0⟩ (Nat.le_of_ble_eq_true rfl) rfl dL_law__951 ?_
        refine x_aload_n F dL_law__954 rfl 2 rfl ?_
        refine x_aload_n F dL_law__955 rfl 0 rfl ?_
        refine x_iload F dL_law__956 4 rfl ?_
        refine x_iconst F (v := 1) dL_law__958 (by decide) ?_
        refine x_iadd F dL_law__959 ?_
        obtain ⟨x960, c960, h⟩ := bdS h
        refine x_sI F hX hbl hsb c960 dL_law__960 ?_
        obtain ⟨k961, h⟩ := gdS h
        obtain ⟨⟨x961, M961⟩, c961, h⟩ := bdS h
        dsimp only at h
        refine x_callV F (As := [.int x960]) (rest := [.int x951]) (res := (some (.int x961))) (ci := 11) (q := (RX11, TX11, 45)) rfl (by decide) k961 (k_X11_roomOf l b D cy N v2 x960 M951 _ _ c961) wl_1428 wl_1429 wl_1430 wl_854 wl_1151 hd_X11_roomOf ⟨Nat.le_of_ble_eq_true rfl, Nat.le_of_ble_eq_true rfl⟩ ⟨hc0, hs0⟩ (Nat.le_of_ble_eq_true rfl) rfl dL_law__961 ?_
        refine x_icmp_eq F (tgt := 1306) dL_law__964 (by decide) (fun c964 => ?_) (fun c964 => ?_)
        · rw [if_pos c964] at h
          refine x_iinc F (v := v4 + 6) (lv' := [(4, .int (v4 + 6)), (0, .ref sb), (1, .ref (b + v1)), (2, .ref (b + v2)), (3, .ref (b + v3))]) dL_law__1306 4 rfl rfl (by decide) rfl ?_
          refine x_goto F (tgt := 23) dL_law__1309 (by decide) ?_
          refine x_sub [1, 2, 3, 4, 0] rfl ?_
          exact ih cz cs (by omega) (by omega) (v4 + 6) M961 o h hR
        · rw [if_neg c964] at h
          refine x_iconst F (v := 0) dL_law__967 (by decide) ?_
          obtain rfl := Option.some.inj h
          obtain ⟨hr1, rfl⟩ := hR _ _ rfl
          exact absurd hr1 (by decide)
      rw [if_neg c40_22] at h
      by_cases c40_23 : (x36 &&& 63) = 23
      · rw [if_pos c40_23] at h
        refine x_tableIn F (off := 929) (tgt := 969) dL_law__40 (by rw [c40_23]; decide) (by rw [c40_23]; decide) (by rw [c40_23]; decide) (by decide) ?_
        refine x_aload_n F dL_law__969 rfl 1 rfl ?_
        refine x_aload_n F dL_law__970 rfl 0 rfl ?_
        refine x_iload F dL_law__971 4 rfl ?_
        refine x_iconst F (v := 1) dL_law__973 (by decide) ?_
        refine x_iadd F dL_law__974 ?_
        obtain ⟨x975, c975, h⟩ := bdS h
        refine x_sI F hX hbl hsb c975 dL_law__975 ?_
        obtain ⟨k976, h⟩ := gdS h
        obtain ⟨⟨x976, M976⟩, c976, h⟩ := bdS h
        dsimp only at h
        refine x_callV F (As := [.int x975]) (rest := []) (res := (some (.int x976))) (ci := 10) (q := (RX10, TX10, 19)) rfl (by decide) k976 (k_X10_bears l b D cy N v1 x975 M _ _ c976) wl_1431 wl_1432 wl_1433 wl_31 wl_803 hd_X10_bears ⟨Nat.le_of_ble_eq_true rfl, Nat.le_of_ble_eq_true rfl⟩ ⟨hc0, hs0⟩ (Nat.le_of_ble_eq_true rfl) rfl dL_law__976 ?_
        refine x_aload_n F dL_law__979 rfl 2 rfl ?_
        refine x_aload_n F dL_law__980 rfl 0 rfl ?_
        refine x_iload F dL_law__981 4 rfl ?_
        refine x_iconst F (v := 1) dL_law__983 (by decide) ?_
        refine x_iadd F dL_law__984 ?_
        obtain ⟨x985, c985, h⟩ := bdS h
        refine x_sI F hX hbl hsb c985 dL_law__985 ?_
        obtain ⟨k986, h⟩ := gdS h
        obtain ⟨⟨x986, M986⟩, c986, h⟩ := bdS h
        dsimp only at h
        refine x_callV F (As := [.int x985]) (rest := [.int x976]) (res := (some (.int x986))) (ci := 11) (q := (RX11, TX11, 45)) rfl (by decide) k986 (k_X11_bears l b D cy N v2 x985 M976 _ _ c986) wl_1434 wl_1435 wl_1436 wl_854 wl_1152 hd_X11_bears ⟨Nat.le_of_ble_eq_true rfl, Nat.le_of_ble_eq_true rfl⟩ ⟨hc0, hs0⟩ (Nat.le_of_ble_eq_true rfl) rfl dL_law__986 ?_
        refine x_icmp_eq F (tgt := 1306) dL_law__989 (by decide) (fun c989 => ?_) (fun c989 => ?_)
        · rw [if_pos c989] at h
          refine x_iinc F (v := v4 + 6) (lv' := [(4, .int (v4 + 6)), (0, .ref sb), (1, .ref (b + v1)), (2, .ref (b + v2)), (3, .ref (b + v3))]) dL_law__1306 4 rfl rfl (by decide) rfl ?_
          refine x_goto F (tgt := 23) dL_law__1309 (by decide) ?_
          refine x_sub [1, 2, 3, 4, 0] rfl ?_
          exact ih cz cs (by omega) (by omega) (v4 + 6) M986 o h hR
        · rw [if_neg c989] at h
          refine x_iconst F (v := 0) dL_law__992 (by decide) ?_
          obtain rfl := Option.some.inj h
          obtain ⟨hr1, rfl⟩ := hR _ _ rfl
          exact absurd hr1 (by decide)
      rw [if_neg c40_23] at h
      by_cases c40_24 : (x36 &&& 63) = 24
      · rw [if_pos c40_24] at h
        refine x_tableIn F (off := 954) (tgt := 994) dL_law__40 (by rw [c40_24]; decide) (by rw [c40_24]; decide) (by rw [c40_24]; decide) (by decide) ?_
        refine x_aload_n F dL_law__994 rfl 1 rfl ?_
        obtain ⟨k995, h⟩ := gdS h
        obtain ⟨⟨x995, M995⟩, c995, h⟩ := bdS h
        dsimp only at h
        refine x_callV F (As := []) (rest := []) (res := (some (.int x995))) (ci := 10) (q := (RX10, TX10, 19)) rfl (by decide) k995 (k_X10_fullest l b D cy N v1 M _ _ c995) wl_1437 wl_1438 wl_1439 wl_31 wl_804 hd_X10_fullest ⟨Nat.le_of_ble_eq_true rfl, Nat.le_of_ble_eq_true rfl⟩ ⟨hc0, hs0⟩ (Nat.le_of_ble_eq_true rfl) rfl dL_law__995 ?_
        refine x_aload_n F dL_law__998 rfl 2 rfl ?_
        obtain ⟨k999, h⟩ := gdS h
        obtain ⟨⟨x999, M999⟩, c999, h⟩ := bdS h
        dsimp only at h
        refine x_callV F (As := []) (rest := [.int x995]) (res := (some (.int x999))) (ci := 11) (q := (RX11, TX11, 45)) rfl (by decide) k999 (k_X11_fullest l b D cy N v2 M995 _ _ c999) wl_1440 wl_1441 wl_1442 wl_854 wl_1153 hd_X11_fullest ⟨Nat.le_of_ble_eq_true rfl, Nat.le_of_ble_eq_true rfl⟩ ⟨hc0, hs0⟩ (Nat.le_of_ble_eq_true rfl) rfl dL_law__999 ?_
        refine x_icmp_eq F (tgt := 1306) dL_law__1002 (by decide) (fun c1002 => ?_) (fun c1002 => ?_)
        · rw [if_pos c1002] at h
          refine x_iinc F (v := v4 + 6) (lv' := [(4, .int (v4 + 6)), (0, .ref sb), (1, .ref (b + v1)), (2, .ref (b + v2)), (3, .ref (b + v3))]) dL_law__1306 4 rfl rfl (by decide) rfl ?_
          refine x_goto F (tgt := 23) dL_law__1309 (by decide) ?_
          refine x_sub [1, 2, 3, 4, 0] rfl ?_
          exact ih cz cs (by omega) (by omega) (v4 + 6) M999 o h hR
        · rw [if_neg c1002] at h
          refine x_iconst F (v := 0) dL_law__1005 (by decide) ?_
          obtain rfl := Option.some.inj h
          obtain ⟨hr1, rfl⟩ := hR _ _ rfl
          exact absurd hr1 (by decide)
      rw [if_neg c40_24] at h
      by_cases c40_25 : (x36 &&& 63) = 25
      · rw [if_pos c40_25] at h
        refine x_tableIn F (off := 967) (tgt := 1007) dL_law__40 (by rw [c40_25]; decide) (by rw [c40_25]; decide) (by rw [c40_25]; decide) (by decide) ?_
        refine x_aload_n F dL_law__1007 rfl 1 rfl ?_
        refine x_aload_n F dL_law__1008 rfl 0 rfl ?_
        refine x_iload F dL_law__1009 4 rfl ?_
        refine x_iconst F (v := 1) dL_law__1011 (by decide) ?_
        refine x_iadd F dL_law__1012 ?_
        obtain ⟨x1013, c1013, h⟩ := bdS h
        refine x_sI F hX hbl hsb c1013 dL_law__1013 ?_
        obtain ⟨k1014, h⟩ := gdS h
        obtain ⟨⟨x1014, M1014⟩, c1014, h⟩ := bdS h
        dsimp only at h
        refine x_callV F (As := [.int x1013]) (rest := []) (res := (some (.int x1014))) (ci := 10) (q := (RX10, TX10, 19)) rfl (by decide) k1014 (k_X10_row l b D cy N v1 x1013 M _ _ c1014) wl_1443 wl_1444 wl_1445 wl_31 wl_813 hd_X10_row ⟨Nat.le_of_ble_eq_true rfl, Nat.le_of_ble_eq_true rfl⟩ ⟨hc0, hs0⟩ (Nat.le_of_ble_eq_true rfl) rfl dL_law__1014 ?_
        refine x_aload_n F dL_law__1017 rfl 2 rfl ?_
        refine x_aload_n F dL_law__1018 rfl 0 rfl ?_
        refine x_iload F dL_law__1019 4 rfl ?_
        refine x_iconst F (v := 1) dL_law__1021 (by decide) ?_
        refine x_iadd F dL_law__1022 ?_
        obtain ⟨x1023, c1023, h⟩ := bdS h
        refine x_sI F hX hbl hsb c1023 dL_law__1023 ?_
        obtain ⟨k1024, h⟩ := gdS h
        obtain ⟨⟨x1024, M1024⟩, c1024, h⟩ := bdS h
        dsimp only at h
        refine x_callV F (As := [.int x1023]) (rest := [.int x1014]) (res := (some (.int x1024))) (ci := 11) (q := (RX11, TX11, 45)) rfl (by decide) k1024 (k_X11_row l b D cy N v2 x1023 M1014 _ _ c1024) wl_1446 wl_1447 wl_1448 wl_854 wl_1163 hd_X11_row ⟨Nat.le_of_ble_eq_true rfl, Nat.le_of_ble_eq_true rfl⟩ ⟨hc0, hs0⟩ (Nat.le_of_ble_eq_true rfl) rfl dL_law__1024 ?_
        refine x_icmp_eq F (tgt := 1306) dL_law__1027 (by decide) (fun c1027 => ?_) (fun c1027 => ?_)
        · rw [if_pos c1027] at h
          refine x_iinc F (v := v4 + 6) (lv' := [(4, .int (v4 + 6)), (0, .ref sb), (1, .ref (b + v1)), (2, .ref (b + v2)), (3, .ref (b + v3))]) dL_law__1306 4 rfl rfl (by decide) rfl ?_
          refine x_goto F (tgt := 23) dL_law__1309 (by decide) ?_
          refine x_sub [1, 2, 3, 4, 0] rfl ?_
          exact ih cz cs (by omega) (by omega) (v4 + 6) M1024 o h hR
        · rw [if_neg c1027] at h
          refine x_iconst F (v := 0) dL_law__1030 (by decide) ?_
          obtain rfl := Option.some.inj h
          obtain ⟨hr1, rfl⟩ := hR _ _ rfl
          exact absurd hr1 (by decide)
      rw [if_neg c40_25] at h
      by_cases c40_26 : (x36 &&& 63) = 26
      · rw [if_pos c40_26] at h
        refine x_tableIn F (off := 992) (tgt := 1032) dL_law__40 (by rw [c40_26]; decide) (by rw [c40_26]; decide) (by rw [c40_26]; decide) (by decide) ?_
        refine x_aload_n F dL_law__1032 rfl 1 rfl ?_
        refine x_aload_n F dL_law__1033 rfl 0 rfl ?_
        refine x_iload F dL_law__1034 4 rfl ?_
        refine x_iconst F (v := 1) dL_law__1036 (by decide) ?_
        refine x_iadd F dL_law__1037 ?_
        obtain ⟨x1038, c1038, h⟩ := bdS h
        refine x_sI F hX hbl hsb c1038 dL_law__1038 ?_
        obtain ⟨k1039, h⟩ := gdS h
        obtain ⟨⟨x1039, M1039⟩, c1039, h⟩ := bdS h
        dsimp only at h
        refine x_callV F (As := [.int x1038]) (rest := []) (res := (some (.int x1039))) (ci := 10) (q := (RX10, TX10, 19)) rfl (by decide) k1039 (k_X10_byteAt l b D cy N v1 x1038 M _ _ c1039) wl_1449 wl_1450 wl_1451 wl_31 wl_814 hd_X10_byteAt ⟨Nat.le_of_ble_eq_true rfl, Nat.le_of_ble_eq_true rfl⟩ ⟨hc0, hs0⟩ (Nat.le_of_ble_eq_true rfl) rfl dL_law__1039 ?_
        refine x_aload_n F dL_law__1042 rfl 2 rfl ?_
        refine x_aload_n F dL_law__1043 rfl 0 rfl ?_
        refine x_iload F dL_law__1044 4 rfl ?_
        refine x_iconst F (v := 1) dL_law__1046 (by decide) ?_
        refine x_iadd F dL_law__1047 ?_
        obtain ⟨x1048, c1048, h⟩ := bdS h
        refine x_sI F hX hbl hsb c1048 dL_law__1048 ?_
        obtain ⟨k1049, h⟩ := gdS h
        obtain ⟨⟨x1049, M1049⟩, c1049, h⟩ := bdS h
        dsimp only at h
        refine x_callV F (As := [.int x1048]) (rest := [.int x1039]) (res := (some (.int x1049))) (ci := 11) (q := (RX11, TX11, 45)) rfl (by decide) k1049 (k_X11_byteAt l b D cy N v2 x1048 M1039 _ _ c1049) wl_1452 wl_1453 wl_1454 wl_854 wl_1164 hd_X11_byteAt ⟨Nat.le_of_ble_eq_true rfl, Nat.le_of_ble_eq_true rfl⟩ ⟨hc0, hs0⟩ (Nat.le_of_ble_eq_true rfl) rfl dL_law__1049 ?_
        refine x_icmp_eq F (tgt := 1306) dL_law__1052 (by decide) (fun c1052 => ?_) (fun c1052 => ?_)
        · rw [if_pos c1052] at h
          refine x_iinc F (v := v4 + 6) (lv' := [(4, .int (v4 + 6)), (0, .ref sb), (1, .ref (b + v1)), (2, .ref (b + v2)), (3, .ref (b + v3))]) dL_law__1306 4 rfl rfl (by decide) rfl ?_
          refine x_goto F (tgt := 23) dL_law__1309 (by decide) ?_
          refine x_sub [1, 2, 3, 4, 0] rfl ?_
          exact ih cz cs (by omega) (by omega) (v4 + 6) M1049 o h hR
        · rw [if_neg c1052] at h
          refine x_iconst F (v := 0) dL_law__1055 (by decide) ?_
          obtain rfl := Option.some.inj h
          obtain ⟨hr1, rfl⟩ := hR _ _ rfl
          exact absurd hr1 (by decide)
      rw [if_neg c40_26] at h
      by_cases c40_27 : (x36 &&& 63) = 27
      · rw [if_pos c40_27] at h
        refine x_tableIn F (off := 1017) (tgt := 1057) dL_law__40 (by rw [c40_27]; decide) (by rw [c40_27]; decide) (by rw [c40_27]; decide) (by decide) ?_
        refine x_aload_n F dL_law__1057 rfl 1 rfl ?_
        refine x_aload_n F dL_law__1058 rfl 0 rfl ?_
        refine x_iload F dL_law__1059 4 rfl ?_
        refine x_iconst F (v := 1) dL_law__1061 (by decide) ?_
        refine x_iadd F dL_law__1062 ?_
        obtain ⟨x1063, c1063, h⟩ := bdS h
        refine x_sI F hX hbl hsb c1063 dL_law__1063 ?_
        refine x_aload_n F dL_law__1064 rfl 0 rfl ?_
        refine x_iload F dL_law__1065 4 rfl ?_
        refine x_iconst F (v := 2) dL_law__1067 (by decide) ?_
        refine x_iadd F dL_law__1068 ?_
        obtain ⟨x1069, c1069, h⟩ := bdS h
        refine x_sI F hX hbl hsb c1069 dL_law__1069 ?_
        obtain ⟨k1070, h⟩ := gdS h
        obtain ⟨⟨x1070, M1070⟩, c1070, h⟩ := bdS h
        dsimp only at h
        refine x_callV F (As := [.int x1063, .int x1069]) (rest := []) (res := (some (.int x1070))) (ci := 10) (q := (RX10, TX10, 19)) rfl (by decide) k1070 (k_X10_drawn l b D cy N v1 x1063 x1069 M _ _ c1070) wl_1455 wl_1456 wl_1457 wl_31 wl_771 hd_X10_drawn ⟨Nat.le_of_ble_eq_true rfl, Nat.le_of_ble_eq_true rfl⟩ ⟨hc0, hs0⟩ (Nat.le_of_ble_eq_true rfl) rfl dL_law__1070 ?_
        refine x_aload_n F dL_law__1073 rfl 2 rfl ?_
        refine x_aload_n F dL_law__1074 rfl 0 rfl ?_
        refine x_iload F dL_law__1075 4 rfl ?_
        refine x_iconst F (v := 1) dL_law__1077 (by decide) ?_
        refine x_iadd F dL_law__1078 ?_
        obtain ⟨x1079, c1079, h⟩ := bdS h
        refine x_sI F hX hbl hsb c1079 dL_law__1079 ?_
        refine x_aload_n F dL_law__1080 rfl 0 rfl ?_
        refine x_iload F dL_law__1081 4 rfl ?_
        refine x_iconst F (v := 2) dL_law__1083 (by decide) ?_
        refine x_iadd F dL_law__1084 ?_
        obtain ⟨x1085, c1085, h⟩ := bdS h
        refine x_sI F hX hbl hsb c1085 dL_law__1085 ?_
        obtain ⟨k1086, h⟩ := gdS h
        obtain ⟨⟨x1086, M1086⟩, c1086, h⟩ := bdS h
        dsimp only at h
        refine x_callV F (As := [.int x1079, .int x1085]) (rest := [.int x1070]) (res := (some (.int x1086))) (ci := 11) (q := (RX11, TX11, 45)) rfl (by decide) k1086 (k_X11_drawn l b D cy N v2 x1079 x1085 M1070 _ _ c1086) wl_1458 wl_1459 wl_1460 wl_854 wl_1183 hd_X11_drawn ⟨Nat.le_of_ble_eq_true rfl, Nat.le_of_ble_eq_true rfl⟩ ⟨hc0, hs0⟩ (Nat.le_of_ble_eq_true rfl) rfl dL_law__1086 ?_
        refine x_icmp_eq F (tgt := 1306) dL_law__1089 (by decide) (fun c1089 => ?_) (fun c1089 => ?_)
        · rw [if_pos c1089] at h
          refine x_iinc F (v := v4 + 6) (lv' := [(4, .int (v4 + 6)), (0, .ref sb), (1, .ref (b + v1)), (2, .ref (b + v2)), (3, .ref (b + v3))]) dL_law__1306 4 rfl rfl (by decide) rfl ?_
          refine x_goto F (tgt := 23) dL_law__1309 (by decide) ?_
          refine x_sub [1, 2, 3, 4, 0] rfl ?_
          exact ih cz cs (by omega) (by omega) (v4 + 6) M1086 o h hR
        · rw [if_neg c1089] at h
          refine x_iconst F (v := 0) dL_law__1092 (by decide) ?_
          obtain rfl := Option.some.inj h
          obtain ⟨hr1, rfl⟩ := hR _ _ rfl
          exact absurd hr1 (by decide)
      rw [if_neg c40_27] at h
      by_cases c40_28 : (x36 &&& 63) = 28
      · rw [if_pos c40_28] at h
        refine x_tableIn F (off := 1054) (tgt := 1094) dL_law__40 (by rw [c40_28]; decide) (by rw [c40_28]; decide) (by rw [c40_28]; decide) (by decide) ?_
        refine x_aload_n F dL_law__1094 rfl 1 rfl ?_
        refine x_aload_n F dL_law__1095 rfl 0 rfl ?_
        refine x_iload F dL_law__1096 4 rfl ?_
        refine x_iconst F (v := 1) dL_law__1098 (by decide) ?_
        refine x_iadd F dL_law__1099 ?_
        obtain ⟨x1100, c1100, h⟩ := bdS h
        refine x_sI F hX hbl hsb c1100 dL_law__1100 ?_
        refine x_aload_n F dL_law__1101 rfl 0 rfl ?_
        refine x_iload F dL_law__1102 4 rfl ?_
        refine x_iconst F (v := 2) dL_law__1104 (by decide) ?_
        refine x_iadd F dL_law__1105 ?_
        obtain ⟨x1106, c1106, h⟩ := bdS h
        refine x_sI F hX hbl hsb c1106 dL_law__1106 ?_
        refine x_aload_n F dL_law__1107 rfl 0 rfl ?_
        refine x_iload F dL_law__1108 4 rfl ?_
        refine x_iconst F (v := 3) dL_law__1110 (by decide) ?_
        refine x_iadd F dL_law__1111 ?_
        obtain ⟨x1112, c1112, h⟩ := bdS h
        refine x_sI F hX hbl hsb c1112 dL_law__1112 ?_
        obtain ⟨k1113, h⟩ := gdS h
        obtain ⟨⟨x1113, M1113⟩, c1113, h⟩ := bdS h
        dsimp only at h
        refine x_callV F (As := [.int x1100, .int x1106, .int x1112]) (rest := []) (res := (some (.int x1113))) (ci := 10) (q := (RX10, TX10, 19)) rfl (by decide) k1113 (k_X10_odds l b D cy N v1 x1100 x1106 x1112 M _ _ c1113) wl_1461 wl_1462 wl_1463 wl_31 wl_816 hd_X10_odds ⟨Nat.le_of_ble_eq_true rfl, Nat.le_of_ble_eq_true rfl⟩ ⟨hc0, hs0⟩ (Nat.le_of_ble_eq_true rfl) rfl dL_law__1113 ?_
        refine x_aload_n F dL_law__1116 rfl 2 rfl ?_
        refine x_aload_n F dL_law__1117 rfl 0 rfl ?_
        refine x_iload F dL_law__1118 4 rfl ?_
        refine x_iconst F (v := 1) dL_law__1120 (by decide) ?_
        refine x_iadd F dL_law__1121 ?_
        obtain ⟨x1122, c1122, h⟩ := bdS h
        refine x_sI F hX hbl hsb c1122 dL_law__1122 ?_
        refine x_aload_n F dL_law__1123 rfl 0 rfl ?_
        refine x_iload F dL_law__1124 4 rfl ?_
        refine x_iconst F (v := 2) dL_law__1126 (by decide) ?_
        refine x_iadd F dL_law__1127 ?_
        obtain ⟨x1128, c1128, h⟩ := bdS h
        refine x_sI F hX hbl hsb c1128 dL_law__1128 ?_
        refine x_aload_n F dL_law__1129 rfl 0 rfl ?_
        refine x_iload F dL_law__1130 4 rfl ?_
        refine x_iconst F (v := 3) dL_law__1132 (by decide) ?_
        refine x_iadd F dL_law__1133 ?_
        obtain ⟨x1134, c1134, h⟩ := bdS h
        refine x_sI F hX hbl hsb c1134 dL_law__1134 ?_
        obtain ⟨k1135, h⟩ := gdS h
        obtain ⟨⟨x1135, M1135⟩, c1135, h⟩ := bdS h
        dsimp only at h
        refine x_callV F (As := [.int x1122, .int x1128, .int x1134]) (rest := [.int x1113]) (res := (some (.int x1135))) (ci := 11) (q := (RX11, TX11, 45)) rfl (by decide) k1135 (k_X11_odds l b D cy N v2 x1122 x1128 x1134 M1113 _ _ c1135) wl_1464 wl_1465 wl_1466 wl_854 wl_1192 hd_X11_odds ⟨Nat.le_of_ble_eq_true rfl, Nat.le_of_ble_eq_true rfl⟩ ⟨hc0, hs0⟩ (Nat.le_of_ble_eq_true rfl) rfl dL_law__1135 ?_
        refine x_icmp_eq F (tgt := 1306) dL_law__1138 (by decide) (fun c1138 => ?_) (fun c1138 => ?_)
        · rw [if_pos c1138] at h
          refine x_iinc F (v := v4 + 6) (lv' := [(4, .int (v4 + 6)), (0, .ref sb), (1, .ref (b + v1)), (2, .ref (b + v2)), (3, .ref (b + v3))]) dL_law__1306 4 rfl rfl (by decide) rfl ?_
          refine x_goto F (tgt := 23) dL_law__1309 (by decide) ?_
          refine x_sub [1, 2, 3, 4, 0] rfl ?_
          exact ih cz cs (by omega) (by omega) (v4 + 6) M1135 o h hR
        · rw [if_neg c1138] at h
          refine x_iconst F (v := 0) dL_law__1141 (by decide) ?_
          obtain rfl := Option.some.inj h
          obtain ⟨hr1, rfl⟩ := hR _ _ rfl
          exact absurd hr1 (by decide)
      rw [if_neg c40_28] at h
      by_cases c40_29 : (x36 &&& 63) = 29
      · rw [if_pos c40_29] at h
        refine x_tableIn F (off := 1103) (tgt := 1143) dL_law__40 (by rw [c40_29]; decide) (by rw [c40_29]; decide) (by rw [c40_29]; decide) (by decide) ?_
        refine x_aload_n F dL_law__1143 rfl 1 rfl ?_
        refine x_aload_n F dL_law__1144 rfl 0 rfl ?_
        refine x_iload F dL_law__1145 4 rfl ?_
        refine x_iconst F (v := 1) dL_law__1147 (by decide) ?_
        refine x_iadd F dL_law__1148 ?_
        obtain ⟨x1149, c1149, h⟩ := bdS h
        refine x_sI F hX hbl hsb c1149 dL_law__1149 ?_
        obtain ⟨k1150, h⟩ := gdS h
        obtain ⟨⟨x1150, M1150⟩, c1150, h⟩ := bdS h
        dsimp only at h
        refine x_callV F (As := [.int x1149]) (rest := []) (res := (some (.int x1150))) (ci := 10) (q := (RX10, TX10, 19)) rfl (by decide) k1150 (k_X10_book l b D cy N v1 x1149 M _ _ c1150) wl_1467 wl_1468 wl_1469 wl_31 wl_824 hd_X10_book ⟨Nat.le_of_ble_eq_true rfl, Nat.le_of_ble_eq_true rfl⟩ ⟨hc0, hs0⟩ (Nat.le_of_ble_eq_true rfl) rfl dL_law__1150 ?_
        refine x_aload_n F dL_law__1153 rfl 2 rfl ?_
        refine x_aload_n F dL_law__1154 rfl 0 rfl ?_
        refine x_iload F dL_law__1155 4 rfl ?_
        refine x_iconst F (v := 1) dL_law__1157 (by decide) ?_
        refine x_iadd F dL_law__1158 ?_
        obtain ⟨x1159, c1159, h⟩ := bdS h
        refine x_sI F hX hbl hsb c1159 dL_law__1159 ?_
        obtain ⟨k1160, h⟩ := gdS h
        obtain ⟨⟨x1160, M1160⟩, c1160, h⟩ := bdS h
        dsimp only at h
        refine x_callV F (As := [.int x1159]) (rest := [.int x1150]) (res := (some (.int x1160))) (ci := 11) (q := (RX11, TX11, 45)) rfl (by decide) k1160 (k_X11_book l b D cy N v2 x1159 M1150 _ _ c1160) wl_1470 wl_1471 wl_1472 wl_854 wl_1223 hd_X11_book ⟨Nat.le_of_ble_eq_true rfl, Nat.le_of_ble_eq_true rfl⟩ ⟨hc0, hs0⟩ (Nat.le_of_ble_eq_true rfl) rfl dL_law__1160 ?_
        refine x_icmp_eq F (tgt := 1306) dL_law__1163 (by decide) (fun c1163 => ?_) (fun c1163 => ?_)
        · rw [if_pos c1163] at h
          refine x_iinc F (v := v4 + 6) (lv' := [(4, .int (v4 + 6)), (0, .ref sb), (1, .ref (b + v1)), (2, .ref (b + v2)), (3, .ref (b + v3))]) dL_law__1306 4 rfl rfl (by decide) rfl ?_
          refine x_goto F (tgt := 23) dL_law__1309 (by decide) ?_
          refine x_sub [1, 2, 3, 4, 0] rfl ?_
          exact ih cz cs (by omega) (by omega) (v4 + 6) M1160 o h hR
        · rw [if_neg c1163] at h
          refine x_iconst F (v := 0) dL_law__1166 (by decide) ?_
          obtain rfl := Option.some.inj h
          obtain ⟨hr1, rfl⟩ := hR _ _ rfl
          exact absurd hr1 (by decide)
      rw [if_neg c40_29] at h
      by_cases c40_30 : (x36 &&& 63) = 30
      · rw [if_pos c40_30] at h
        refine x_tableIn F (off := 1128) (tgt := 1168) dL_law__40 (by rw [c40_30]; decide) (by rw [c40_30]; decide) (by rw [c40_30]; decide) (by decide) ?_
        refine x_aload_n F dL_law__1168 rfl 1 rfl ?_
        refine x_aload_n F dL_law__1169 rfl 0 rfl ?_
        refine x_iload F dL_law__1170 4 rfl ?_
        refine x_iconst F (v := 1) dL_law__1172 (by decide) ?_
        refine x_iadd F dL_law__1173 ?_
        obtain ⟨x1174, c1174, h⟩ := bdS h
        refine x_sI F hX hbl hsb c1174 dL_law__1174 ?_
        obtain ⟨k1175, h⟩ := gdS h
        obtain ⟨⟨x1175, M1175⟩, c1175, h⟩ := bdS h
        dsimp only at h
        refine x_callV F (As := [.int x1174]) (rest := []) (res := (some (.int x1175))) (ci := 10) (q := (RX10, TX10, 19)) rfl (by decide) k1175 (k_X10_told l b D cy N v1 x1174 M _ _ c1175) wl_1473 wl_1474 wl_1475 wl_31 wl_825 hd_X10_told ⟨Nat.le_of_ble_eq_true rfl, Nat.le_of_ble_eq_true rfl⟩ ⟨hc0, hs0⟩ (Nat.le_of_ble_eq_true rfl) rfl dL_law__1175 ?_
        refine x_aload_n F dL_law__1178 rfl 2 rfl ?_
        refine x_aload_n F dL_law__1179 rfl 0 rfl ?_
        refine x_iload F dL_law__1180 4 rfl ?_
        refine x_iconst F (v := 1) dL_law__1182 (by decide) ?_
        refine x_iadd F dL_law__1183 ?_
        obtain ⟨x1184, c1184, h⟩ := bdS h
        refine x_sI F hX hbl hsb c1184 dL_law__1184 ?_
        obtain ⟨k1185, h⟩ := gdS h
        obtain ⟨⟨x1185, M1185⟩, c1185, h⟩ := bdS h
        dsimp only at h
        refine x_callV F (As := [.int x1184]) (rest := [.int x1175]) (res := (some (.int x1185))) (ci := 11) (q := (RX11, TX11, 45)) rfl (by decide) k1185 (k_X11_told l b D cy N v2 x1184 M1175 _ _ c1185) wl_1476 wl_1477 wl_1478 wl_854 wl_1224 hd_X11_told ⟨Nat.le_of_ble_eq_true rfl, Nat.le_of_ble_eq_true rfl⟩ ⟨hc0, hs0⟩ (Nat.le_of_ble_eq_true rfl) rfl dL_law__1185 ?_
        refine x_icmp_eq F (tgt := 1306) dL_law__1188 (by decide) (fun c1188 => ?_) (fun c1188 => ?_)
        · rw [if_pos c1188] at h
          refine x_iinc F (v := v4 + 6) (lv' := [(4, .int (v4 + 6)), (0, .ref sb), (1, .ref (b + v1)), (2, .ref (b + v2)), (3, .ref (b + v3))]) dL_law__1306 4 rfl rfl (by decide) rfl ?_
          refine x_goto F (tgt := 23) dL_law__1309 (by decide) ?_
          refine x_sub [1, 2, 3, 4, 0] rfl ?_
          exact ih cz cs (by omega) (by omega) (v4 + 6) M1185 o h hR
        · rw [if_neg c1188] at h
          refine x_iconst F (v := 0) dL_law__1191 (by decide) ?_
          obtain rfl := Option.some.inj h
          obtain ⟨hr1, rfl⟩ := hR _ _ rfl
          exact absurd hr1 (by decide)
      rw [if_neg c40_30] at h
      by_cases c40_31 : (x36 &&& 63) = 31
      · rw [if_pos c40_31] at h
        refine x_tableIn F (off := 1153) (tgt := 1193) dL_law__40 (by rw [c40_31]; decide) (by rw [c40_31]; decide) (by rw [c40_31]; decide) (by decide) ?_
        refine x_aload_n F dL_law__1193 rfl 1 rfl ?_
        obtain ⟨k1194, h⟩ := gdS h
        obtain ⟨⟨x1194, M1194⟩, c1194, h⟩ := bdS h
        dsimp only at h
        refine x_callV F (As := []) (rest := []) (res := (some (.int x1194))) (ci := 10) (q := (RX10, TX10, 19)) rfl (by decide) k1194 (k_X10_sentence l b D cy N v1 M _ _ c1194) wl_1479 wl_1480 wl_1481 wl_31 wl_836 hd_X10_sentence ⟨Nat.le_of_ble_eq_true rfl, Nat.le_of_ble_eq_true rfl⟩ ⟨hc0, hs0⟩ (Nat.le_of_ble_eq_true rfl) rfl dL_law__1194 ?_
        refine x_aload_n F dL_law__1197 rfl 2 rfl ?_
        obtain ⟨k1198, h⟩ := gdS h
        obtain ⟨⟨x1198, M1198⟩, c1198, h⟩ := bdS h
        dsimp only at h
        refine x_callV F (As := []) (rest := [.int x1194]) (res := (some (.int x1198))) (ci := 11) (q := (RX11, TX11, 45)) rfl (by decide) k1198 (k_X11_sentence l b D cy N v2 M1194 _ _ c1198) wl_1482 wl_1483 wl_1484 wl_854 wl_1262 hd_X11_sentence ⟨Nat.le_of_ble_eq_true rfl, Nat.le_of_ble_eq_true rfl⟩ ⟨hc0, hs0⟩ (Nat.le_of_ble_eq_true rfl) rfl dL_law__1198 ?_
        refine x_icmp_eq F (tgt := 1306) dL_law__1201 (by decide) (fun c1201 => ?_) (fun c1201 => ?_)
        · rw [if_pos c1201] at h
          refine x_iinc F (v := v4 + 6) (lv' := [(4, .int (v4 + 6)), (0, .ref sb), (1, .ref (b + v1)), (2, .ref (b + v2)), (3, .ref (b + v3))]) dL_law__1306 4 rfl rfl (by decide) rfl ?_
          refine x_goto F (tgt := 23) dL_law__1309 (by decide) ?_
          refine x_sub [1, 2, 3, 4, 0] rfl ?_
          exact ih cz cs (by omega) (by omega) (v4 + 6) M1198 o h hR
        · rw [if_neg c1201] at h
          refine x_iconst F (v := 0) dL_law__1204 (by decide) ?_
          obtain rfl := Option.some.inj h
          obtain ⟨hr1, rfl⟩ := hR _ _ rfl
          exact absurd hr1 (by decide)
      rw [if_neg c40_31] at h
      by_cases c40_32 : (x36 &&& 63) = 32
      · rw [if_pos c40_32] at h
        refine x_tableIn F (off := 1166) (tgt := 1206) dL_law__40 (by rw [c40_32]; decide) (by rw [c40_32]; decide) (by rw [c40_32]; decide) (by decide) ?_
        refine x_aload_n F dL_law__1206 rfl 1 rfl ?_
        refine x_aload_n F dL_law__1207 rfl 0 rfl ?_
        refine x_iload F dL_law__1208 4 rfl ?_
        refine x_iconst F (v := 1) dL_law__1210 (by decide) ?_
        refine x_iadd F dL_law__1211 ?_
        obtain ⟨x1212, c1212, h⟩ := bdS h
        refine x_sI F hX hbl hsb c1212 dL_law__1212 ?_
        obtain ⟨k1213, h⟩ := gdS h
        obtain ⟨⟨x1213, M1213⟩, c1213, h⟩ := bdS h
        dsimp only at h
        refine x_callV F (As := [.int x1212]) (rest := []) (res := (some (.int x1213))) (ci := 10) (q := (RX10, TX10, 19)) rfl (by decide) k1213 (k_X10_said l b D cy N v1 x1212 M _ _ c1213) wl_1485 wl_1486 wl_1487 wl_31 wl_841 hd_X10_said ⟨Nat.le_of_ble_eq_true rfl, Nat.le_of_ble_eq_true rfl⟩ ⟨hc0, hs0⟩ (Nat.le_of_ble_eq_true rfl) rfl dL_law__1213 ?_
        refine x_aload_n F dL_law__1216 rfl 2 rfl ?_
        refine x_aload_n F dL_law__1217 rfl 0 rfl ?_
        refine x_iload F dL_law__1218 4 rfl ?_
        refine x_iconst F (v := 1) dL_law__1220 (by decide) ?_
        refine x_iadd F dL_law__1221 ?_
        obtain ⟨x1222, c1222, h⟩ := bdS h
        refine x_sI F hX hbl hsb c1222 dL_law__1222 ?_
        obtain ⟨k1223, h⟩ := gdS h
        obtain ⟨⟨x1223, M1223⟩, c1223, h⟩ := bdS h
        dsimp only at h
        refine x_callV F (As := [.int x1222]) (rest := [.int x1213]) (res := (some (.int x1223))) (ci := 11) (q := (RX11, TX11, 45)) rfl (by decide) k1223 (k_X11_said l b D cy N v2 x1222 M1213 _ _ c1223) wl_1488 wl_1489 wl_1490 wl_854 wl_1270 hd_X11_said ⟨Nat.le_of_ble_eq_true rfl, Nat.le_of_ble_eq_true rfl⟩ ⟨hc0, hs0⟩ (Nat.le_of_ble_eq_true rfl) rfl dL_law__1223 ?_
        refine x_icmp_eq F (tgt := 1306) dL_law__1226 (by decide) (fun c1226 => ?_) (fun c1226 => ?_)
        · rw [if_pos c1226] at h
          refine x_iinc F (v := v4 + 6) (lv' := [(4, .int (v4 + 6)), (0, .ref sb), (1, .ref (b + v1)), (2, .ref (b + v2)), (3, .ref (b + v3))]) dL_law__1306 4 rfl rfl (by decide) rfl ?_
          refine x_goto F (tgt := 23) dL_law__1309 (by decide) ?_
          refine x_sub [1, 2, 3, 4, 0] rfl ?_
          exact ih cz cs (by omega) (by omega) (v4 + 6) M1223 o h hR
        · rw [if_neg c1226] at h
          refine x_iconst F (v := 0) dL_law__1229 (by decide) ?_
          obtain rfl := Option.some.inj h
          obtain ⟨hr1, rfl⟩ := hR _ _ rfl
          exact absurd hr1 (by decide)
      rw [if_neg c40_32] at h
      by_cases c40_33 : (x36 &&& 63) = 33
      · rw [if_pos c40_33] at h
        refine x_tableIn F (off := 1191) (tgt := 1231) dL_law__40 (by rw [c40_33]; decide) (by rw [c40_33]; decide) (by rw [c40_33]; decide) (by decide) ?_
        refine x_aload_n F dL_law__1231 rfl 1 rfl ?_
        refine x_aload_n F dL_law__1232 rfl 0 rfl ?_
        refine x_iload F dL_law__1233 4 rfl ?_
        refine x_iconst F (v := 1) dL_law__1235 (by decide) ?_
        refine x_iadd F dL_law__1236 ?_
        obtain ⟨x1237, c1237, h⟩ := bdS h
        refine x_sI F hX hbl hsb c1237 dL_law__1237 ?_
        obtain ⟨k1238, h⟩ := gdS h
        obtain ⟨⟨x1238, M1238⟩, c1238, h⟩ := bdS h
        dsimp only at h
        refine x_callV F (As := [.int x1237]) (rest := []) (res := (some (.int x1238))) (ci := 10) (q := (RX10, TX10, 19)) rfl (by decide) k1238 (k_X10_image l b D cy N v1 x1237 M _ _ c1238) wl_1491 wl_1492 wl_1493 wl_31 wl_842 hd_X10_image ⟨Nat.le_of_ble_eq_true rfl, Nat.le_of_ble_eq_true rfl⟩ ⟨hc0, hs0⟩ (Nat.le_of_ble_eq_true rfl) rfl dL_law__1238 ?_
        refine x_aload_n F dL_law__1241 rfl 2 rfl ?_
        refine x_aload_n F dL_law__1242 rfl 0 rfl ?_
        refine x_iload F dL_law__1243 4 rfl ?_
        refine x_iconst F (v := 1) dL_law__1245 (by decide) ?_
        refine x_iadd F dL_law__1246 ?_
        obtain ⟨x1247, c1247, h⟩ := bdS h
        refine x_sI F hX hbl hsb c1247 dL_law__1247 ?_
        obtain ⟨k1248, h⟩ := gdS h
        obtain ⟨⟨x1248, M1248⟩, c1248, h⟩ := bdS h
        dsimp only at h
        refine x_callV F (As := [.int x1247]) (rest := [.int x1238]) (res := (some (.int x1248))) (ci := 11) (q := (RX11, TX11, 45)) rfl (by decide) k1248 (k_X11_image l b D cy N v2 x1247 M1238 _ _ c1248) wl_1494 wl_1495 wl_1496 wl_854 wl_1271 hd_X11_image ⟨Nat.le_of_ble_eq_true rfl, Nat.le_of_ble_eq_true rfl⟩ ⟨hc0, hs0⟩ (Nat.le_of_ble_eq_true rfl) rfl dL_law__1248 ?_
        refine x_icmp_eq F (tgt := 1306) dL_law__1251 (by decide) (fun c1251 => ?_) (fun c1251 => ?_)
        · rw [if_pos c1251] at h
          refine x_iinc F (v := v4 + 6) (lv' := [(4, .int (v4 + 6)), (0, .ref sb), (1, .ref (b + v1)), (2, .ref (b + v2)), (3, .ref (b + v3))]) dL_law__1306 4 rfl rfl (by decide) rfl ?_
          refine x_goto F (tgt := 23) dL_law__1309 (by decide) ?_
          refine x_sub [1, 2, 3, 4, 0] rfl ?_
          exact ih cz cs (by omega) (by omega) (v4 + 6) M1248 o h hR
        · rw [if_neg c1251] at h
          refine x_iconst F (v := 0) dL_law__1254 (by decide) ?_
          obtain rfl := Option.some.inj h
          obtain ⟨hr1, rfl⟩ := hR _ _ rfl
          exact absurd hr1 (by decide)
      rw [if_neg c40_33] at h
      by_cases c40_34 : (x36 &&& 63) = 34
      · rw [if_pos c40_34] at h
        refine x_tableIn F (off := 1216) (tgt := 1256) dL_law__40 (by rw [c40_34]; decide) (by rw [c40_34]; decide) (by rw [c40_34]; decide) (by decide) ?_
        refine x_aload_n F dL_law__1256 rfl 1 rfl ?_
        refine x_aload_n F dL_law__1257 rfl 0 rfl ?_
        refine x_iload F dL_law__1258 4 rfl ?_
        refine x_iconst F (v := 1) dL_law__1260 (by decide) ?_
        refine x_iadd F dL_law__1261 ?_
        obtain ⟨x1262, c1262, h⟩ := bdS h
        refine x_sI F hX hbl hsb c1262 dL_law__1262 ?_
        obtain ⟨k1263, h⟩ := gdS h
        obtain ⟨⟨x1263, M1263⟩, c1263, h⟩ := bdS h
        dsimp only at h
        refine x_callV F (As := [.int x1262]) (rest := []) (res := (some (.int x1263))) (ci := 10) (q := (RX10, TX10, 19)) rfl (by decide) k1263 (k_X10_restore l b D cy N v1 x1262 M _ _ c1263) wl_1497 wl_1498 wl_1499 wl_31 wl_843 hd_X10_restore ⟨Nat.le_of_ble_eq_true rfl, Nat.le_of_ble_eq_true rfl⟩ ⟨hc0, hs0⟩ (Nat.le_of_ble_eq_true rfl) rfl dL_law__1263 ?_
        refine x_aload_n F dL_law__1266 rfl 2 rfl ?_
        refine x_aload_n F dL_law__1267 rfl 0 rfl ?_
        refine x_iload F dL_law__1268 4 rfl ?_
        refine x_iconst F (v := 1) dL_law__1270 (by decide) ?_
        refine x_iadd F dL_law__1271 ?_
        obtain ⟨x1272, c1272, h⟩ := bdS h
        refine x_sI F hX hbl hsb c1272 dL_law__1272 ?_
        obtain ⟨k1273, h⟩ := gdS h
        obtain ⟨⟨x1273, M1273⟩, c1273, h⟩ := bdS h
        dsimp only at h
        refine x_callV F (As := [.int x1272]) (rest := [.int x1263]) (res := (some (.int x1273))) (ci := 11) (q := (RX11, TX11, 45)) rfl (by decide) k1273 (k_X11_restore l b D cy N v2 x1272 M1263 _ _ c1273) wl_1500 wl_1501 wl_1502 wl_854 wl_1272 hd_X11_restore ⟨Nat.le_of_ble_eq_true rfl, Nat.le_of_ble_eq_true rfl⟩ ⟨hc0, hs0⟩ (Nat.le_of_ble_eq_true rfl) rfl dL_law__1273 ?_
        refine x_icmp_eq F (tgt := 1306) dL_law__1276 (by decide) (fun c1276 => ?_) (fun c1276 => ?_)
        · rw [if_pos c1276] at h
          refine x_iinc F (v := v4 + 6) (lv' := [(4, .int (v4 + 6)), (0, .ref sb), (1, .ref (b + v1)), (2, .ref (b + v2)), (3, .ref (b + v3))]) dL_law__1306 4 rfl rfl (by decide) rfl ?_
          refine x_goto F (tgt := 23) dL_law__1309 (by decide) ?_
          refine x_sub [1, 2, 3, 4, 0] rfl ?_
          exact ih cz cs (by omega) (by omega) (v4 + 6) M1273 o h hR
        · rw [if_neg c1276] at h
          refine x_iconst F (v := 0) dL_law__1279 (by decide) ?_
          obtain rfl := Option.some.inj h
          obtain ⟨hr1, rfl⟩ := hR _ _ rfl
          exact absurd hr1 (by decide)
      rw [if_neg c40_34] at h
      by_cases c40_35 : (x36 &&& 63) = 35
      · rw [if_pos c40_35] at h
        refine x_tableIn F (off := 1241) (tgt := 1281) dL_law__40 (by rw [c40_35]; decide) (by rw [c40_35]; decide) (by rw [c40_35]; decide) (by decide) ?_
        refine x_aload_n F dL_law__1281 rfl 1 rfl ?_
        refine x_aload_n F dL_law__1282 rfl 0 rfl ?_
        refine x_iload F dL_law__1283 4 rfl ?_
        refine x_iconst F (v := 1) dL_law__1285 (by decide) ?_
        refine x_iadd F dL_law__1286 ?_
        obtain ⟨x1287, c1287, h⟩ := bdS h
        refine x_sI F hX hbl hsb c1287 dL_law__1287 ?_
        obtain ⟨k1288, h⟩ := gdS h
        obtain ⟨⟨x1288, M1288⟩, c1288, h⟩ := bdS h
        dsimp only at h
        refine x_callV F (As := [.int x1287]) (rest := []) (res := (some (.int x1288))) (ci := 10) (q := (RX10, TX10, 19)) rfl (by decide) k1288 (k_X10_count l b D cy N v1 x1287 M _ _ c1288) wl_1503 wl_1504 wl_1505 wl_31 wl_741 hd_X10_count ⟨Nat.le_of_ble_eq_true rfl, Nat.le_of_ble_eq_true rfl⟩ ⟨hc0, hs0⟩ (Nat.le_of_ble_eq_true rfl) rfl dL_law__1288 ?_
        refine x_aload_n F dL_law__1291 rfl 2 rfl ?_
        refine x_aload_n F dL_law__1292 rfl 0 rfl ?_
        refine x_iload F dL_law__1293 4 rfl ?_
        refine x_iconst F (v := 1) dL_law__1295 (by decide) ?_
        refine x_iadd F dL_law__1296 ?_
        obtain ⟨x1297, c1297, h⟩ := bdS h
        refine x_sI F hX hbl hsb c1297 dL_law__1297 ?_
        obtain ⟨k1298, h⟩ := gdS h
        obtain ⟨⟨x1298, M1298⟩, c1298, h⟩ := bdS h
        dsimp only at h
        refine x_callV F (As := [.int x1297]) (rest := [.int x1288]) (res := (some (.int x1298))) (ci := 11) (q := (RX11, TX11, 45)) rfl (by decide) k1298 (k_X11_count l b D cy N v2 x1297 M1288 _ _ c1298) wl_1506 wl_1507 wl_1508 wl_854 wl_1273 hd_X11_count ⟨Nat.le_of_ble_eq_true rfl, Nat.le_of_ble_eq_true rfl⟩ ⟨hc0, hs0⟩ (Nat.le_of_ble_eq_true rfl) rfl dL_law__1298 ?_
        refine x_icmp_eq F (tgt := 1306) dL_law__1301 (by decide) (fun c1301 => ?_) (fun c1301 => ?_)
        · rw [if_pos c1301] at h
          refine x_iinc F (v := v4 + 6) (lv' := [(4, .int (v4 + 6)), (0, .ref sb), (1, .ref (b + v1)), (2, .ref (b + v2)), (3, .ref (b + v3))]) dL_law__1306 4 rfl rfl (by decide) rfl ?_
          refine x_goto F (tgt := 23) dL_law__1309 (by decide) ?_
          refine x_sub [1, 2, 3, 4, 0] rfl ?_
          exact ih cz cs (by omega) (by omega) (v4 + 6) M1298 o h hR
        · rw [if_neg c1301] at h
          refine x_iconst F (v := 0) dL_law__1304 (by decide) ?_
          obtain rfl := Option.some.inj h
          obtain ⟨hr1, rfl⟩ := hR _ _ rfl
          exact absurd hr1 (by decide)
      rw [if_neg c40_35] at h
      refine x_tableOut F (tgt := 1306) dL_law__40 (by have q0 := sw_ne (t := 0) c40_0 (by decide); have q1 := sw_ne (t := 1) c40_1 (by decide); have q2 := sw_ne (t := 2) c40_2 (by decide); have q3 := sw_ne (t := 3) c40_3 (by decide); have q4 := sw_ne (t := 4) c40_4 (by decide); have q5 := sw_ne (t := 5) c40_5 (by decide); have q6 := sw_ne (t := 6) c40_6 (by decide); have q7 := sw_ne (t := 7) c40_7 (by decide); have q8 := sw_ne (t := 8) c40_8 (by decide); have q9 := sw_ne (t := 9) c40_9 (by decide); have q10 := sw_ne (t := 10) c40_10 (by decide); have q11 := sw_ne (t := 11) c40_11 (by decide); have q12 := sw_ne (t := 12) c40_12 (by decide); have q13 := sw_ne (t := 13) c40_13 (by decide); have q14 := sw_ne (t := 14) c40_14 (by decide); have q15 := sw_ne (t := 15) c40_15 (by decide); have q16 := sw_ne (t := 16) c40_16 (by decide); have q17 := sw_ne (t := 17) c40_17 (by decide); have q18 := sw_ne (t := 18) c40_18 (by decide); have q19 := sw_ne (t := 19) c40_19 (by decide); have q20 := sw_ne (t := 20) c40_20 (by decide); have q21 := sw_ne (t := 21) c40_21 (by decide); have q22 := sw_ne (t := 22) c40_22 (by decide); have q23 := sw_ne (t := 23) c40_23 (by decide); have q24 := sw_ne (t := 24) c40_24 (by decide); have q25 := sw_ne (t := 25) c40_25 (by decide); have q26 := sw_ne (t := 26) c40_26 (by decide); have q27 := sw_ne (t := 27) c40_27 (by decide); have q28 := sw_ne (t := 28) c40_28 (by decide); have q29 := sw_ne (t := 29) c40_29 (by decide); have q30 := sw_ne (t := 30) c40_30 (by decide); have q31 := sw_ne (t := 31) c40_31 (by decide); have q32 := sw_ne (t := 32) c40_32 (by decide); have q33 := sw_ne (t := 33) c40_33 (by decide); have q34 := sw_ne (t := 34) c40_34 (by decide); have q35 := sw_ne (t := 35) c40_35 (by decide); omega) (by decide) ?_
      refine x_iinc F (v := v4 + 6) (lv' := [(4, .int (v4 + 6)), (0, .ref sb), (1, .ref (b + v1)), (2, .ref (b + v2)), (3, .ref (b + v3))]) dL_law__1306 4 rfl rfl (by decide) rfl ?_
      refine x_goto F (tgt := 23) dL_law__1309 (by decide) ?_
      refine x_sub [1, 2, 3, 4, 0] rfl ?_
      exact ih cz cs (by omega) (by omega) (v4 + 6) M o h hR
set_option maxHeartbeats 40000000 in
set_option maxRecDepth 100000 in
theorem law_W {p : Program} {l : Launch} {e : Env} {s : State} {m : MethodId} {below : List Frame} {meth : Method} {c : Code} {sb L b : Nat} {xs : Nat → Int32} {D : va_G} {cy : Nat → ClassId} (hlt : l.stackTraces = false) (F : Fx p s m #[Value.ref sb] c cL_law_ 7 RL b D cy) (hX : va_X sb L xs s s.heap) (hbl : sb < s.heap.size) (hb : b = s.heap.size) (hr : meth.sig.returnType = ret) (hl : meth.locks = false) (N : Nat) (hN : N ≤ 100000) (M Mf : Mem) (h : fL_law_ N xs L M = some (1, Mf)) : X p l e room_1 s m #[Value.ref sb] below meth c (lw_Z below #[Value.ref sb] s) 7 b D cy 0 0 M 0 [(0, .ref sb)] [] := by
  have hn1 : 207 + N ≤ 600128 := by omega
  have hn2 : 19121 + 6 * N ≤ 7301098 := by omega
  unfold fL_law_ at h
  obtain ⟨⟨x0_1, M0_1⟩, c0, h⟩ := bdS h
  dsimp only at h
  refine x_new F (ci := 10) (C := RX10) (T := TX10) (N := 19) rfl ⟨by decide, rfl⟩ inU10 tyX10_ok wl_1283 wl_1284 wl_31 c0 ⟨Nat.le_of_ble_eq_true rfl, Nat.le_of_ble_eq_true rfl⟩ dL_law__0 ?_
  refine x_dup F dL_law__3 rfl ?_
  obtain ⟨⟨u4, M4_2⟩, c4, h⟩ := bdS h
  dsimp only at h
  refine x_callI F (As := []) (rest := [.ref (b + x0_1)]) (res := none) (a := x0_1) (k_X10_init l b D cy N x0_1 M0_1 _ _ c4) wl_672 wl_31 wl_1287 wl_1288 rfl (hd_X10_init).2 ⟨Nat.le_of_ble_eq_true rfl, Nat.le_of_ble_eq_true rfl⟩ ⟨Nat.le_of_ble_eq_true rfl, Nat.le_of_ble_eq_true rfl⟩ (Nat.le_of_ble_eq_true rfl) rfl dL_law__4 ?_
  refine x_astore_n F (lv' := [(1, .ref (b + x0_1)), (0, .ref sb)]) dL_law__7 rfl (by decide) rfl ?_
  obtain ⟨⟨x8_3, M8_3⟩, c8, h⟩ := bdS h
  dsimp only at h
  refine x_new F (ci := 11) (C := RX11) (T := TX11) (N := 45) rfl ⟨by decide, rfl⟩ inU11 tyX11_ok wl_1285 wl_1286 wl_854 c8 ⟨Nat.le_of_ble_eq_true rfl, Nat.le_of_ble_eq_true rfl⟩ dL_law__8 ?_
  refine x_dup F dL_law__11 rfl ?_
  obtain ⟨⟨u12, M12_4⟩, c12, h⟩ := bdS h
  dsimp only at h
  refine x_callI F (As := []) (rest := [.ref (b + x8_3)]) (res := none) (a := x8_3) (k_X11_init l b D cy N x8_3 M8_3 _ _ c12) wl_935 wl_854 wl_1289 wl_1290 rfl (hd_X11_init).2 ⟨Nat.le_of_ble_eq_true rfl, Nat.le_of_ble_eq_true rfl⟩ ⟨Nat.le_of_ble_eq_true rfl, Nat.le_of_ble_eq_true rfl⟩ (Nat.le_of_ble_eq_true rfl) rfl dL_law__12 ?_
  refine x_astore_n F (lv' := [(2, .ref (b + x8_3)), (1, .ref (b + x0_1)), (0, .ref sb)]) dL_law__15 rfl (by decide) rfl ?_
  refine x_iconst F (v := 1) dL_law__16 (by decide) ?_
  obtain ⟨⟨x17_5, M17_5⟩, c17, h⟩ := bdS h
  dsimp only at h
  refine x_nVL F (N0 := 1) (by decide) wl_485 c17 ⟨Nat.le_of_ble_eq_true rfl, Nat.le_of_ble_eq_true rfl⟩ dL_law__17 ?_
  refine x_astore_n F (lv' := [(3, .ref (b + x17_5)), (2, .ref (b + x8_3)), (1, .ref (b + x0_1)), (0, .ref sb)]) dL_law__19 rfl (by decide) rfl ?_
  refine x_iconst F (v := 0) dL_law__20 (by decide) ?_
  refine x_istore F (lv' := [(4, .int 0), (3, .ref (b + x17_5)), (2, .ref (b + x8_3)), (1, .ref (b + x0_1)), (0, .ref sb)]) dL_law__21 (by decide) rfl ?_
  refine x_sub [4, 3, 2, 1, 0] rfl ?_
  refine x_fg ?_
  exact law_L hlt F hX hbl hb hr hl N Mf x0_1 x8_3 x17_5 N _ _ hn1 hn2 0 (fg M17_5) _ h (fun r' M' e => by cases e; exact ⟨rfl, rfl⟩)
