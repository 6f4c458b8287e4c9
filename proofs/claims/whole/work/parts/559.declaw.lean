theorem dL_law__0 : decode cL_law_ 0 = .ok (.new 8, 3) := by decide +kernel
theorem dL_law__3 : decode cL_law_ 3 = .ok (.dup, 1) := by decide +kernel
theorem dL_law__4 : decode cL_law_ 4 = .ok (.invokespecial 107, 3) := by decide +kernel
theorem dL_law__7 : decode cL_law_ 7 = .ok (.astore_n 1, 1) := by decide +kernel
theorem dL_law__8 : decode cL_law_ 8 = .ok (.new 108, 3) := by decide +kernel
theorem dL_law__11 : decode cL_law_ 11 = .ok (.dup, 1) := by decide +kernel
theorem dL_law__12 : decode cL_law_ 12 = .ok (.invokespecial 110, 3) := by decide +kernel
theorem dL_law__15 : decode cL_law_ 15 = .ok (.astore_n 2, 1) := by decide +kernel
theorem dL_law__16 : decode cL_law_ 16 = .ok (.iconst 1, 1) := by decide +kernel
theorem dL_law__17 : decode cL_law_ 17 = .ok (.newarray .long, 2) := by decide +kernel
theorem dL_law__19 : decode cL_law_ 19 = .ok (.astore_n 3, 1) := by decide +kernel
theorem dL_law__20 : decode cL_law_ 20 = .ok (.iconst 0, 1) := by decide +kernel
theorem dL_law__21 : decode cL_law_ 21 = .ok (.istore 4, 2) := by decide +kernel
theorem dL_law__23 : decode cL_law_ 23 = .ok (.iload 4, 2) := by decide +kernel
theorem dL_law__25 : decode cL_law_ 25 = .ok (.aload_n 0, 1) := by decide +kernel
theorem dL_law__26 : decode cL_law_ 26 = .ok (.arraylength, 1) := by decide +kernel
theorem dL_law__27 : decode cL_law_ 27 = .ok (.bipush 6, 2) := by decide +kernel
theorem dL_law__29 : decode cL_law_ 29 = .ok (.isub, 1) := by decide +kernel
theorem dL_law__30 : decode cL_law_ 30 = .ok (.if_icmp .gt 2283, 3) := by decide +kernel
theorem dL_law__33 : decode cL_law_ 33 = .ok (.aload_n 0, 1) := by decide +kernel
theorem dL_law__34 : decode cL_law_ 34 = .ok (.iload 4, 2) := by decide +kernel
theorem dL_law__36 : decode cL_law_ 36 = .ok (.iaload, 1) := by decide +kernel
theorem dL_law__37 : decode cL_law_ 37 = .ok (.bipush 63, 2) := by decide +kernel
theorem dL_law__39 : decode cL_law_ 39 = .ok (.iand, 1) := by decide +kernel
theorem dL_law__40 : decode cL_law_ 40 = .ok (.tableswitch 2267 0 37 #[168, 241, 297, 365, 421, 477, 490, 503, 559, 639, 707, 775, 843, 899, 967, 1042, 1110, 1178, 1245, 1325, 1380, 1436, 1492, 1560, 1573, 1629, 1709, 1789, 1857, 1870, 1883, 1975, 2079, 2135, 2191, 2204, 2217, 2242], 168) := by decide +kernel
theorem dL_law__208 : decode cL_law_ 208 = .ok (.aload_n 1, 1) := by decide +kernel
theorem dL_law__209 : decode cL_law_ 209 = .ok (.aload_n 0, 1) := by decide +kernel
theorem dL_law__210 : decode cL_law_ 210 = .ok (.iload 4, 2) := by decide +kernel
theorem dL_law__212 : decode cL_law_ 212 = .ok (.iconst 1, 1) := by decide +kernel
theorem dL_law__213 : decode cL_law_ 213 = .ok (.iadd, 1) := by decide +kernel
theorem dL_law__214 : decode cL_law_ 214 = .ok (.iaload, 1) := by decide +kernel
theorem dL_law__215 : decode cL_law_ 215 = .ok (.aload_n 0, 1) := by decide +kernel
theorem dL_law__216 : decode cL_law_ 216 = .ok (.iload 4, 2) := by decide +kernel
theorem dL_law__218 : decode cL_law_ 218 = .ok (.iconst 2, 1) := by decide +kernel
theorem dL_law__219 : decode cL_law_ 219 = .ok (.iadd, 1) := by decide +kernel
theorem dL_law__220 : decode cL_law_ 220 = .ok (.iaload, 1) := by decide +kernel
theorem dL_law__221 : decode cL_law_ 221 = .ok (.aload_n 0, 1) := by decide +kernel
theorem dL_law__222 : decode cL_law_ 222 = .ok (.iload 4, 2) := by decide +kernel
theorem dL_law__224 : decode cL_law_ 224 = .ok (.iconst 3, 1) := by decide +kernel
theorem dL_law__225 : decode cL_law_ 225 = .ok (.iadd, 1) := by decide +kernel
theorem dL_law__226 : decode cL_law_ 226 = .ok (.iaload, 1) := by decide +kernel
theorem dL_law__227 : decode cL_law_ 227 = .ok (.aload_n 0, 1) := by decide +kernel
theorem dL_law__228 : decode cL_law_ 228 = .ok (.iload 4, 2) := by decide +kernel
theorem dL_law__230 : decode cL_law_ 230 = .ok (.iconst 4, 1) := by decide +kernel
theorem dL_law__231 : decode cL_law_ 231 = .ok (.iadd, 1) := by decide +kernel
theorem dL_law__232 : decode cL_law_ 232 = .ok (.iaload, 1) := by decide +kernel
theorem dL_law__233 : decode cL_law_ 233 = .ok (.aload_n 0, 1) := by decide +kernel
theorem dL_law__234 : decode cL_law_ 234 = .ok (.iload 4, 2) := by decide +kernel
theorem dL_law__236 : decode cL_law_ 236 = .ok (.iconst 5, 1) := by decide +kernel
theorem dL_law__237 : decode cL_law_ 237 = .ok (.iadd, 1) := by decide +kernel
theorem dL_law__238 : decode cL_law_ 238 = .ok (.iaload, 1) := by decide +kernel
theorem dL_law__239 : decode cL_law_ 239 = .ok (.invokevirtual 111, 3) := by decide +kernel
theorem dL_law__242 : decode cL_law_ 242 = .ok (.aload_n 2, 1) := by decide +kernel
theorem dL_law__243 : decode cL_law_ 243 = .ok (.aload_n 0, 1) := by decide +kernel
theorem dL_law__244 : decode cL_law_ 244 = .ok (.iload 4, 2) := by decide +kernel
theorem dL_law__246 : decode cL_law_ 246 = .ok (.iconst 1, 1) := by decide +kernel
theorem dL_law__247 : decode cL_law_ 247 = .ok (.iadd, 1) := by decide +kernel
theorem dL_law__248 : decode cL_law_ 248 = .ok (.iaload, 1) := by decide +kernel
theorem dL_law__249 : decode cL_law_ 249 = .ok (.aload_n 0, 1) := by decide +kernel
theorem dL_law__250 : decode cL_law_ 250 = .ok (.iload 4, 2) := by decide +kernel
theorem dL_law__252 : decode cL_law_ 252 = .ok (.iconst 2, 1) := by decide +kernel
theorem dL_law__253 : decode cL_law_ 253 = .ok (.iadd, 1) := by decide +kernel
theorem dL_law__254 : decode cL_law_ 254 = .ok (.iaload, 1) := by decide +kernel
theorem dL_law__255 : decode cL_law_ 255 = .ok (.aload_n 0, 1) := by decide +kernel
theorem dL_law__256 : decode cL_law_ 256 = .ok (.iload 4, 2) := by decide +kernel
theorem dL_law__258 : decode cL_law_ 258 = .ok (.iconst 3, 1) := by decide +kernel
theorem dL_law__259 : decode cL_law_ 259 = .ok (.iadd, 1) := by decide +kernel
theorem dL_law__260 : decode cL_law_ 260 = .ok (.iaload, 1) := by decide +kernel
theorem dL_law__261 : decode cL_law_ 261 = .ok (.aload_n 0, 1) := by decide +kernel
theorem dL_law__262 : decode cL_law_ 262 = .ok (.iload 4, 2) := by decide +kernel
theorem dL_law__264 : decode cL_law_ 264 = .ok (.iconst 4, 1) := by decide +kernel
theorem dL_law__265 : decode cL_law_ 265 = .ok (.iadd, 1) := by decide +kernel
theorem dL_law__266 : decode cL_law_ 266 = .ok (.iaload, 1) := by decide +kernel
theorem dL_law__267 : decode cL_law_ 267 = .ok (.aload_n 0, 1) := by decide +kernel
theorem dL_law__268 : decode cL_law_ 268 = .ok (.iload 4, 2) := by decide +kernel
theorem dL_law__270 : decode cL_law_ 270 = .ok (.iconst 5, 1) := by decide +kernel
theorem dL_law__271 : decode cL_law_ 271 = .ok (.iadd, 1) := by decide +kernel
theorem dL_law__272 : decode cL_law_ 272 = .ok (.iaload, 1) := by decide +kernel
theorem dL_law__273 : decode cL_law_ 273 = .ok (.invokevirtual 114, 3) := by decide +kernel
theorem dL_law__276 : decode cL_law_ 276 = .ok (.if_icmp .eq 2031, 3) := by decide +kernel
theorem dL_law__279 : decode cL_law_ 279 = .ok (.iconst 0, 1) := by decide +kernel
theorem dL_law__280 : decode cL_law_ 280 = .ok (.ireturn, 1) := by decide +kernel
theorem dL_law__281 : decode cL_law_ 281 = .ok (.aload_n 1, 1) := by decide +kernel
theorem dL_law__282 : decode cL_law_ 282 = .ok (.aload_n 0, 1) := by decide +kernel
theorem dL_law__283 : decode cL_law_ 283 = .ok (.iload 4, 2) := by decide +kernel
theorem dL_law__285 : decode cL_law_ 285 = .ok (.iconst 1, 1) := by decide +kernel
theorem dL_law__286 : decode cL_law_ 286 = .ok (.iadd, 1) := by decide +kernel
theorem dL_law__287 : decode cL_law_ 287 = .ok (.iaload, 1) := by decide +kernel
theorem dL_law__288 : decode cL_law_ 288 = .ok (.aload_n 3, 1) := by decide +kernel
theorem dL_law__289 : decode cL_law_ 289 = .ok (.invokestatic 115, 3) := by decide +kernel
theorem dL_law__292 : decode cL_law_ 292 = .ok (.istore 5, 2) := by decide +kernel
theorem dL_law__294 : decode cL_law_ 294 = .ok (.aload_n 2, 1) := by decide +kernel
theorem dL_law__295 : decode cL_law_ 295 = .ok (.aload_n 0, 1) := by decide +kernel
theorem dL_law__296 : decode cL_law_ 296 = .ok (.iload 4, 2) := by decide +kernel
theorem dL_law__298 : decode cL_law_ 298 = .ok (.iconst 1, 1) := by decide +kernel
theorem dL_law__299 : decode cL_law_ 299 = .ok (.iadd, 1) := by decide +kernel
theorem dL_law__300 : decode cL_law_ 300 = .ok (.iaload, 1) := by decide +kernel
theorem dL_law__301 : decode cL_law_ 301 = .ok (.invokevirtual 120, 3) := by decide +kernel
theorem dL_law__304 : decode cL_law_ 304 = .ok (.istore 6, 2) := by decide +kernel
theorem dL_law__306 : decode cL_law_ 306 = .ok (.aload_n 2, 1) := by decide +kernel
theorem dL_law__307 : decode cL_law_ 307 = .ok (.invokevirtual 121, 3) := by decide +kernel
theorem dL_law__310 : decode cL_law_ 310 = .ok (.iload 5, 2) := by decide +kernel
theorem dL_law__312 : decode cL_law_ 312 = .ok (.if_icmp .eq 5, 3) := by decide +kernel
theorem dL_law__315 : decode cL_law_ 315 = .ok (.iconst 0, 1) := by decide +kernel
theorem dL_law__316 : decode cL_law_ 316 = .ok (.ireturn, 1) := by decide +kernel
theorem dL_law__317 : decode cL_law_ 317 = .ok (.iload 5, 2) := by decide +kernel
theorem dL_law__319 : decode cL_law_ 319 = .ok (.ifCond .ne 15, 3) := by decide +kernel
theorem dL_law__322 : decode cL_law_ 322 = .ok (.aload_n 3, 1) := by decide +kernel
theorem dL_law__323 : decode cL_law_ 323 = .ok (.iconst 0, 1) := by decide +kernel
theorem dL_law__324 : decode cL_law_ 324 = .ok (.laload, 1) := by decide +kernel
theorem dL_law__325 : decode cL_law_ 325 = .ok (.iload 6, 2) := by decide +kernel
theorem dL_law__327 : decode cL_law_ 327 = .ok (.i2l, 1) := by decide +kernel
theorem dL_law__328 : decode cL_law_ 328 = .ok (.lcmp, 1) := by decide +kernel
theorem dL_law__329 : decode cL_law_ 329 = .ok (.ifCond .eq 5, 3) := by decide +kernel
theorem dL_law__332 : decode cL_law_ 332 = .ok (.iconst 0, 1) := by decide +kernel
theorem dL_law__333 : decode cL_law_ 333 = .ok (.ireturn, 1) := by decide +kernel
theorem dL_law__334 : decode cL_law_ 334 = .ok (.goto 1973, 3) := by decide +kernel
theorem dL_law__337 : decode cL_law_ 337 = .ok (.aload_n 1, 1) := by decide +kernel
theorem dL_law__338 : decode cL_law_ 338 = .ok (.aload_n 0, 1) := by decide +kernel
theorem dL_law__339 : decode cL_law_ 339 = .ok (.iload 4, 2) := by decide +kernel
theorem dL_law__341 : decode cL_law_ 341 = .ok (.iconst 1, 1) := by decide +kernel
theorem dL_law__342 : decode cL_law_ 342 = .ok (.iadd, 1) := by decide +kernel
theorem dL_law__343 : decode cL_law_ 343 = .ok (.iaload, 1) := by decide +kernel
theorem dL_law__344 : decode cL_law_ 344 = .ok (.aload_n 0, 1) := by decide +kernel
theorem dL_law__345 : decode cL_law_ 345 = .ok (.iload 4, 2) := by decide +kernel
theorem dL_law__347 : decode cL_law_ 347 = .ok (.iconst 2, 1) := by decide +kernel
theorem dL_law__348 : decode cL_law_ 348 = .ok (.iadd, 1) := by decide +kernel
theorem dL_law__349 : decode cL_law_ 349 = .ok (.iaload, 1) := by decide +kernel
theorem dL_law__350 : decode cL_law_ 350 = .ok (.aload_n 3, 1) := by decide +kernel
theorem dL_law__351 : decode cL_law_ 351 = .ok (.invokestatic 125, 3) := by decide +kernel
theorem dL_law__354 : decode cL_law_ 354 = .ok (.istore 5, 2) := by decide +kernel
theorem dL_law__356 : decode cL_law_ 356 = .ok (.aload_n 2, 1) := by decide +kernel
theorem dL_law__357 : decode cL_law_ 357 = .ok (.aload_n 0, 1) := by decide +kernel
theorem dL_law__358 : decode cL_law_ 358 = .ok (.iload 4, 2) := by decide +kernel
theorem dL_law__360 : decode cL_law_ 360 = .ok (.iconst 1, 1) := by decide +kernel
theorem dL_law__361 : decode cL_law_ 361 = .ok (.iadd, 1) := by decide +kernel
theorem dL_law__362 : decode cL_law_ 362 = .ok (.iaload, 1) := by decide +kernel
theorem dL_law__363 : decode cL_law_ 363 = .ok (.aload_n 0, 1) := by decide +kernel
theorem dL_law__364 : decode cL_law_ 364 = .ok (.iload 4, 2) := by decide +kernel
theorem dL_law__366 : decode cL_law_ 366 = .ok (.iconst 2, 1) := by decide +kernel
theorem dL_law__367 : decode cL_law_ 367 = .ok (.iadd, 1) := by decide +kernel
theorem dL_law__368 : decode cL_law_ 368 = .ok (.iaload, 1) := by decide +kernel
theorem dL_law__369 : decode cL_law_ 369 = .ok (.invokevirtual 128, 3) := by decide +kernel
theorem dL_law__372 : decode cL_law_ 372 = .ok (.istore 6, 2) := by decide +kernel
theorem dL_law__374 : decode cL_law_ 374 = .ok (.aload_n 2, 1) := by decide +kernel
theorem dL_law__375 : decode cL_law_ 375 = .ok (.invokevirtual 121, 3) := by decide +kernel
theorem dL_law__378 : decode cL_law_ 378 = .ok (.iload 5, 2) := by decide +kernel
theorem dL_law__380 : decode cL_law_ 380 = .ok (.if_icmp .eq 5, 3) := by decide +kernel
theorem dL_law__383 : decode cL_law_ 383 = .ok (.iconst 0, 1) := by decide +kernel
theorem dL_law__384 : decode cL_law_ 384 = .ok (.ireturn, 1) := by decide +kernel
theorem dL_law__385 : decode cL_law_ 385 = .ok (.iload 5, 2) := by decide +kernel
theorem dL_law__387 : decode cL_law_ 387 = .ok (.ifCond .ne 15, 3) := by decide +kernel
theorem dL_law__390 : decode cL_law_ 390 = .ok (.aload_n 3, 1) := by decide +kernel
theorem dL_law__391 : decode cL_law_ 391 = .ok (.iconst 0, 1) := by decide +kernel
theorem dL_law__392 : decode cL_law_ 392 = .ok (.laload, 1) := by decide +kernel
theorem dL_law__393 : decode cL_law_ 393 = .ok (.iload 6, 2) := by decide +kernel
theorem dL_law__395 : decode cL_law_ 395 = .ok (.i2l, 1) := by decide +kernel
theorem dL_law__396 : decode cL_law_ 396 = .ok (.lcmp, 1) := by decide +kernel
theorem dL_law__397 : decode cL_law_ 397 = .ok (.ifCond .eq 5, 3) := by decide +kernel
theorem dL_law__400 : decode cL_law_ 400 = .ok (.iconst 0, 1) := by decide +kernel
theorem dL_law__401 : decode cL_law_ 401 = .ok (.ireturn, 1) := by decide +kernel
theorem dL_law__402 : decode cL_law_ 402 = .ok (.goto 1905, 3) := by decide +kernel
theorem dL_law__405 : decode cL_law_ 405 = .ok (.aload_n 1, 1) := by decide +kernel
theorem dL_law__406 : decode cL_law_ 406 = .ok (.aload_n 0, 1) := by decide +kernel
theorem dL_law__407 : decode cL_law_ 407 = .ok (.iload 4, 2) := by decide +kernel
theorem dL_law__409 : decode cL_law_ 409 = .ok (.iconst 1, 1) := by decide +kernel
theorem dL_law__410 : decode cL_law_ 410 = .ok (.iadd, 1) := by decide +kernel
theorem dL_law__411 : decode cL_law_ 411 = .ok (.iaload, 1) := by decide +kernel
theorem dL_law__412 : decode cL_law_ 412 = .ok (.aload_n 3, 1) := by decide +kernel
theorem dL_law__413 : decode cL_law_ 413 = .ok (.invokestatic 129, 3) := by decide +kernel
theorem dL_law__416 : decode cL_law_ 416 = .ok (.istore 5, 2) := by decide +kernel
theorem dL_law__418 : decode cL_law_ 418 = .ok (.aload_n 2, 1) := by decide +kernel
theorem dL_law__419 : decode cL_law_ 419 = .ok (.aload_n 0, 1) := by decide +kernel
theorem dL_law__420 : decode cL_law_ 420 = .ok (.iload 4, 2) := by decide +kernel
theorem dL_law__422 : decode cL_law_ 422 = .ok (.iconst 1, 1) := by decide +kernel
theorem dL_law__423 : decode cL_law_ 423 = .ok (.iadd, 1) := by decide +kernel
theorem dL_law__424 : decode cL_law_ 424 = .ok (.iaload, 1) := by decide +kernel
theorem dL_law__425 : decode cL_law_ 425 = .ok (.invokevirtual 131, 3) := by decide +kernel
theorem dL_law__428 : decode cL_law_ 428 = .ok (.istore 6, 2) := by decide +kernel
theorem dL_law__430 : decode cL_law_ 430 = .ok (.aload_n 2, 1) := by decide +kernel
theorem dL_law__431 : decode cL_law_ 431 = .ok (.invokevirtual 121, 3) := by decide +kernel
theorem dL_law__434 : decode cL_law_ 434 = .ok (.iload 5, 2) := by decide +kernel
theorem dL_law__436 : decode cL_law_ 436 = .ok (.if_icmp .eq 5, 3) := by decide +kernel
theorem dL_law__439 : decode cL_law_ 439 = .ok (.iconst 0, 1) := by decide +kernel
theorem dL_law__440 : decode cL_law_ 440 = .ok (.ireturn, 1) := by decide +kernel
theorem dL_law__441 : decode cL_law_ 441 = .ok (.iload 5, 2) := by decide +kernel
theorem dL_law__443 : decode cL_law_ 443 = .ok (.ifCond .ne 15, 3) := by decide +kernel
theorem dL_law__446 : decode cL_law_ 446 = .ok (.aload_n 3, 1) := by decide +kernel
theorem dL_law__447 : decode cL_law_ 447 = .ok (.iconst 0, 1) := by decide +kernel
theorem dL_law__448 : decode cL_law_ 448 = .ok (.laload, 1) := by decide +kernel
theorem dL_law__449 : decode cL_law_ 449 = .ok (.iload 6, 2) := by decide +kernel
theorem dL_law__451 : decode cL_law_ 451 = .ok (.i2l, 1) := by decide +kernel
theorem dL_law__452 : decode cL_law_ 452 = .ok (.lcmp, 1) := by decide +kernel
theorem dL_law__453 : decode cL_law_ 453 = .ok (.ifCond .eq 5, 3) := by decide +kernel
theorem dL_law__456 : decode cL_law_ 456 = .ok (.iconst 0, 1) := by decide +kernel
theorem dL_law__457 : decode cL_law_ 457 = .ok (.ireturn, 1) := by decide +kernel
theorem dL_law__458 : decode cL_law_ 458 = .ok (.goto 1849, 3) := by decide +kernel
theorem dL_law__461 : decode cL_law_ 461 = .ok (.aload_n 1, 1) := by decide +kernel
theorem dL_law__462 : decode cL_law_ 462 = .ok (.aload_n 0, 1) := by decide +kernel
theorem dL_law__463 : decode cL_law_ 463 = .ok (.iload 4, 2) := by decide +kernel
theorem dL_law__465 : decode cL_law_ 465 = .ok (.iconst 1, 1) := by decide +kernel
theorem dL_law__466 : decode cL_law_ 466 = .ok (.iadd, 1) := by decide +kernel
theorem dL_law__467 : decode cL_law_ 467 = .ok (.iaload, 1) := by decide +kernel
theorem dL_law__468 : decode cL_law_ 468 = .ok (.aload_n 3, 1) := by decide +kernel
theorem dL_law__469 : decode cL_law_ 469 = .ok (.invokestatic 132, 3) := by decide +kernel
theorem dL_law__472 : decode cL_law_ 472 = .ok (.istore 5, 2) := by decide +kernel
theorem dL_law__474 : decode cL_law_ 474 = .ok (.aload_n 2, 1) := by decide +kernel
theorem dL_law__475 : decode cL_law_ 475 = .ok (.aload_n 0, 1) := by decide +kernel
theorem dL_law__476 : decode cL_law_ 476 = .ok (.iload 4, 2) := by decide +kernel
theorem dL_law__478 : decode cL_law_ 478 = .ok (.iconst 1, 1) := by decide +kernel
theorem dL_law__479 : decode cL_law_ 479 = .ok (.iadd, 1) := by decide +kernel
theorem dL_law__480 : decode cL_law_ 480 = .ok (.iaload, 1) := by decide +kernel
theorem dL_law__481 : decode cL_law_ 481 = .ok (.invokevirtual 134, 3) := by decide +kernel
theorem dL_law__484 : decode cL_law_ 484 = .ok (.istore 6, 2) := by decide +kernel
theorem dL_law__486 : decode cL_law_ 486 = .ok (.aload_n 2, 1) := by decide +kernel
theorem dL_law__487 : decode cL_law_ 487 = .ok (.invokevirtual 121, 3) := by decide +kernel
theorem dL_law__490 : decode cL_law_ 490 = .ok (.iload 5, 2) := by decide +kernel
theorem dL_law__492 : decode cL_law_ 492 = .ok (.if_icmp .eq 5, 3) := by decide +kernel
theorem dL_law__495 : decode cL_law_ 495 = .ok (.iconst 0, 1) := by decide +kernel
theorem dL_law__496 : decode cL_law_ 496 = .ok (.ireturn, 1) := by decide +kernel
theorem dL_law__497 : decode cL_law_ 497 = .ok (.iload 5, 2) := by decide +kernel
theorem dL_law__499 : decode cL_law_ 499 = .ok (.ifCond .ne 15, 3) := by decide +kernel
theorem dL_law__502 : decode cL_law_ 502 = .ok (.aload_n 3, 1) := by decide +kernel
theorem dL_law__503 : decode cL_law_ 503 = .ok (.iconst 0, 1) := by decide +kernel
theorem dL_law__504 : decode cL_law_ 504 = .ok (.laload, 1) := by decide +kernel
theorem dL_law__505 : decode cL_law_ 505 = .ok (.iload 6, 2) := by decide +kernel
theorem dL_law__507 : decode cL_law_ 507 = .ok (.i2l, 1) := by decide +kernel
theorem dL_law__508 : decode cL_law_ 508 = .ok (.lcmp, 1) := by decide +kernel
theorem dL_law__509 : decode cL_law_ 509 = .ok (.ifCond .eq 5, 3) := by decide +kernel
theorem dL_law__512 : decode cL_law_ 512 = .ok (.iconst 0, 1) := by decide +kernel
theorem dL_law__513 : decode cL_law_ 513 = .ok (.ireturn, 1) := by decide +kernel
theorem dL_law__514 : decode cL_law_ 514 = .ok (.goto 1793, 3) := by decide +kernel
theorem dL_law__517 : decode cL_law_ 517 = .ok (.aload_n 1, 1) := by decide +kernel
theorem dL_law__518 : decode cL_law_ 518 = .ok (.invokevirtual 135, 3) := by decide +kernel
theorem dL_law__521 : decode cL_law_ 521 = .ok (.aload_n 2, 1) := by decide +kernel
theorem dL_law__522 : decode cL_law_ 522 = .ok (.invokevirtual 138, 3) := by decide +kernel
theorem dL_law__525 : decode cL_law_ 525 = .ok (.if_icmp .eq 1782, 3) := by decide +kernel
theorem dL_law__528 : decode cL_law_ 528 = .ok (.iconst 0, 1) := by decide +kernel
theorem dL_law__529 : decode cL_law_ 529 = .ok (.ireturn, 1) := by decide +kernel
theorem dL_law__530 : decode cL_law_ 530 = .ok (.aload_n 1, 1) := by decide +kernel
theorem dL_law__531 : decode cL_law_ 531 = .ok (.invokevirtual 139, 3) := by decide +kernel
theorem dL_law__534 : decode cL_law_ 534 = .ok (.aload_n 2, 1) := by decide +kernel
theorem dL_law__535 : decode cL_law_ 535 = .ok (.invokevirtual 142, 3) := by decide +kernel
theorem dL_law__538 : decode cL_law_ 538 = .ok (.if_icmp .eq 1769, 3) := by decide +kernel
theorem dL_law__541 : decode cL_law_ 541 = .ok (.iconst 0, 1) := by decide +kernel
theorem dL_law__542 : decode cL_law_ 542 = .ok (.ireturn, 1) := by decide +kernel
theorem dL_law__543 : decode cL_law_ 543 = .ok (.aload_n 1, 1) := by decide +kernel
theorem dL_law__544 : decode cL_law_ 544 = .ok (.aload_n 0, 1) := by decide +kernel
theorem dL_law__545 : decode cL_law_ 545 = .ok (.iload 4, 2) := by decide +kernel
theorem dL_law__547 : decode cL_law_ 547 = .ok (.iconst 1, 1) := by decide +kernel
theorem dL_law__548 : decode cL_law_ 548 = .ok (.iadd, 1) := by decide +kernel
theorem dL_law__549 : decode cL_law_ 549 = .ok (.iaload, 1) := by decide +kernel
theorem dL_law__550 : decode cL_law_ 550 = .ok (.aload_n 3, 1) := by decide +kernel
theorem dL_law__551 : decode cL_law_ 551 = .ok (.invokestatic 143, 3) := by decide +kernel
theorem dL_law__554 : decode cL_law_ 554 = .ok (.istore 5, 2) := by decide +kernel
theorem dL_law__556 : decode cL_law_ 556 = .ok (.aload_n 2, 1) := by decide +kernel
theorem dL_law__557 : decode cL_law_ 557 = .ok (.aload_n 0, 1) := by decide +kernel
theorem dL_law__558 : decode cL_law_ 558 = .ok (.iload 4, 2) := by decide +kernel
theorem dL_law__560 : decode cL_law_ 560 = .ok (.iconst 1, 1) := by decide +kernel
theorem dL_law__561 : decode cL_law_ 561 = .ok (.iadd, 1) := by decide +kernel
theorem dL_law__562 : decode cL_law_ 562 = .ok (.iaload, 1) := by decide +kernel
theorem dL_law__563 : decode cL_law_ 563 = .ok (.invokevirtual 145, 3) := by decide +kernel
theorem dL_law__566 : decode cL_law_ 566 = .ok (.istore 6, 2) := by decide +kernel
theorem dL_law__568 : decode cL_law_ 568 = .ok (.aload_n 2, 1) := by decide +kernel
theorem dL_law__569 : decode cL_law_ 569 = .ok (.invokevirtual 121, 3) := by decide +kernel
theorem dL_law__572 : decode cL_law_ 572 = .ok (.iload 5, 2) := by decide +kernel
theorem dL_law__574 : decode cL_law_ 574 = .ok (.if_icmp .eq 5, 3) := by decide +kernel
theorem dL_law__577 : decode cL_law_ 577 = .ok (.iconst 0, 1) := by decide +kernel
theorem dL_law__578 : decode cL_law_ 578 = .ok (.ireturn, 1) := by decide +kernel
theorem dL_law__579 : decode cL_law_ 579 = .ok (.iload 5, 2) := by decide +kernel
theorem dL_law__581 : decode cL_law_ 581 = .ok (.ifCond .ne 15, 3) := by decide +kernel
theorem dL_law__584 : decode cL_law_ 584 = .ok (.aload_n 3, 1) := by decide +kernel
theorem dL_law__585 : decode cL_law_ 585 = .ok (.iconst 0, 1) := by decide +kernel
theorem dL_law__586 : decode cL_law_ 586 = .ok (.laload, 1) := by decide +kernel
theorem dL_law__587 : decode cL_law_ 587 = .ok (.iload 6, 2) := by decide +kernel
theorem dL_law__589 : decode cL_law_ 589 = .ok (.i2l, 1) := by decide +kernel
theorem dL_law__590 : decode cL_law_ 590 = .ok (.lcmp, 1) := by decide +kernel
theorem dL_law__591 : decode cL_law_ 591 = .ok (.ifCond .eq 5, 3) := by decide +kernel
theorem dL_law__594 : decode cL_law_ 594 = .ok (.iconst 0, 1) := by decide +kernel
theorem dL_law__595 : decode cL_law_ 595 = .ok (.ireturn, 1) := by decide +kernel
theorem dL_law__596 : decode cL_law_ 596 = .ok (.goto 1711, 3) := by decide +kernel
theorem dL_law__599 : decode cL_law_ 599 = .ok (.aload_n 1, 1) := by decide +kernel
theorem dL_law__600 : decode cL_law_ 600 = .ok (.aload_n 0, 1) := by decide +kernel
theorem dL_law__601 : decode cL_law_ 601 = .ok (.iload 4, 2) := by decide +kernel
theorem dL_law__603 : decode cL_law_ 603 = .ok (.iconst 1, 1) := by decide +kernel
theorem dL_law__604 : decode cL_law_ 604 = .ok (.iadd, 1) := by decide +kernel
theorem dL_law__605 : decode cL_law_ 605 = .ok (.iaload, 1) := by decide +kernel
theorem dL_law__606 : decode cL_law_ 606 = .ok (.aload_n 0, 1) := by decide +kernel
theorem dL_law__607 : decode cL_law_ 607 = .ok (.iload 4, 2) := by decide +kernel
theorem dL_law__609 : decode cL_law_ 609 = .ok (.iconst 2, 1) := by decide +kernel
theorem dL_law__610 : decode cL_law_ 610 = .ok (.iadd, 1) := by decide +kernel
theorem dL_law__611 : decode cL_law_ 611 = .ok (.iaload, 1) := by decide +kernel
theorem dL_law__612 : decode cL_law_ 612 = .ok (.aload_n 0, 1) := by decide +kernel
theorem dL_law__613 : decode cL_law_ 613 = .ok (.iload 4, 2) := by decide +kernel
theorem dL_law__615 : decode cL_law_ 615 = .ok (.iconst 3, 1) := by decide +kernel
theorem dL_law__616 : decode cL_law_ 616 = .ok (.iadd, 1) := by decide +kernel
theorem dL_law__617 : decode cL_law_ 617 = .ok (.iaload, 1) := by decide +kernel
theorem dL_law__618 : decode cL_law_ 618 = .ok (.aload_n 3, 1) := by decide +kernel
theorem dL_law__619 : decode cL_law_ 619 = .ok (.invokestatic 146, 3) := by decide +kernel
theorem dL_law__622 : decode cL_law_ 622 = .ok (.istore 5, 2) := by decide +kernel
theorem dL_law__624 : decode cL_law_ 624 = .ok (.aload_n 2, 1) := by decide +kernel
theorem dL_law__625 : decode cL_law_ 625 = .ok (.aload_n 0, 1) := by decide +kernel
theorem dL_law__626 : decode cL_law_ 626 = .ok (.iload 4, 2) := by decide +kernel
theorem dL_law__628 : decode cL_law_ 628 = .ok (.iconst 1, 1) := by decide +kernel
theorem dL_law__629 : decode cL_law_ 629 = .ok (.iadd, 1) := by decide +kernel
theorem dL_law__630 : decode cL_law_ 630 = .ok (.iaload, 1) := by decide +kernel
theorem dL_law__631 : decode cL_law_ 631 = .ok (.aload_n 0, 1) := by decide +kernel
theorem dL_law__632 : decode cL_law_ 632 = .ok (.iload 4, 2) := by decide +kernel
theorem dL_law__634 : decode cL_law_ 634 = .ok (.iconst 2, 1) := by decide +kernel
theorem dL_law__635 : decode cL_law_ 635 = .ok (.iadd, 1) := by decide +kernel
theorem dL_law__636 : decode cL_law_ 636 = .ok (.iaload, 1) := by decide +kernel
theorem dL_law__637 : decode cL_law_ 637 = .ok (.aload_n 0, 1) := by decide +kernel
theorem dL_law__638 : decode cL_law_ 638 = .ok (.iload 4, 2) := by decide +kernel
theorem dL_law__640 : decode cL_law_ 640 = .ok (.iconst 3, 1) := by decide +kernel
theorem dL_law__641 : decode cL_law_ 641 = .ok (.iadd, 1) := by decide +kernel
theorem dL_law__642 : decode cL_law_ 642 = .ok (.iaload, 1) := by decide +kernel
theorem dL_law__643 : decode cL_law_ 643 = .ok (.invokevirtual 149, 3) := by decide +kernel
theorem dL_law__646 : decode cL_law_ 646 = .ok (.istore 6, 2) := by decide +kernel
theorem dL_law__648 : decode cL_law_ 648 = .ok (.aload_n 2, 1) := by decide +kernel
theorem dL_law__649 : decode cL_law_ 649 = .ok (.invokevirtual 121, 3) := by decide +kernel
theorem dL_law__652 : decode cL_law_ 652 = .ok (.iload 5, 2) := by decide +kernel
theorem dL_law__654 : decode cL_law_ 654 = .ok (.if_icmp .eq 5, 3) := by decide +kernel
theorem dL_law__657 : decode cL_law_ 657 = .ok (.iconst 0, 1) := by decide +kernel
theorem dL_law__658 : decode cL_law_ 658 = .ok (.ireturn, 1) := by decide +kernel
theorem dL_law__659 : decode cL_law_ 659 = .ok (.iload 5, 2) := by decide +kernel
theorem dL_law__661 : decode cL_law_ 661 = .ok (.ifCond .ne 15, 3) := by decide +kernel
theorem dL_law__664 : decode cL_law_ 664 = .ok (.aload_n 3, 1) := by decide +kernel
theorem dL_law__665 : decode cL_law_ 665 = .ok (.iconst 0, 1) := by decide +kernel
theorem dL_law__666 : decode cL_law_ 666 = .ok (.laload, 1) := by decide +kernel
theorem dL_law__667 : decode cL_law_ 667 = .ok (.iload 6, 2) := by decide +kernel
theorem dL_law__669 : decode cL_law_ 669 = .ok (.i2l, 1) := by decide +kernel
theorem dL_law__670 : decode cL_law_ 670 = .ok (.lcmp, 1) := by decide +kernel
theorem dL_law__671 : decode cL_law_ 671 = .ok (.ifCond .eq 5, 3) := by decide +kernel
theorem dL_law__674 : decode cL_law_ 674 = .ok (.iconst 0, 1) := by decide +kernel
theorem dL_law__675 : decode cL_law_ 675 = .ok (.ireturn, 1) := by decide +kernel
theorem dL_law__676 : decode cL_law_ 676 = .ok (.goto 1631, 3) := by decide +kernel
theorem dL_law__679 : decode cL_law_ 679 = .ok (.aload_n 1, 1) := by decide +kernel
theorem dL_law__680 : decode cL_law_ 680 = .ok (.aload_n 0, 1) := by decide +kernel
theorem dL_law__681 : decode cL_law_ 681 = .ok (.iload 4, 2) := by decide +kernel
theorem dL_law__683 : decode cL_law_ 683 = .ok (.iconst 1, 1) := by decide +kernel
theorem dL_law__684 : decode cL_law_ 684 = .ok (.iadd, 1) := by decide +kernel
theorem dL_law__685 : decode cL_law_ 685 = .ok (.iaload, 1) := by decide +kernel
theorem dL_law__686 : decode cL_law_ 686 = .ok (.aload_n 0, 1) := by decide +kernel
theorem dL_law__687 : decode cL_law_ 687 = .ok (.iload 4, 2) := by decide +kernel
theorem dL_law__689 : decode cL_law_ 689 = .ok (.iconst 2, 1) := by decide +kernel
theorem dL_law__690 : decode cL_law_ 690 = .ok (.iadd, 1) := by decide +kernel
theorem dL_law__691 : decode cL_law_ 691 = .ok (.iaload, 1) := by decide +kernel
theorem dL_law__692 : decode cL_law_ 692 = .ok (.aload_n 3, 1) := by decide +kernel
theorem dL_law__693 : decode cL_law_ 693 = .ok (.invokestatic 150, 3) := by decide +kernel
theorem dL_law__696 : decode cL_law_ 696 = .ok (.istore 5, 2) := by decide +kernel
theorem dL_law__698 : decode cL_law_ 698 = .ok (.aload_n 2, 1) := by decide +kernel
theorem dL_law__699 : decode cL_law_ 699 = .ok (.aload_n 0, 1) := by decide +kernel
theorem dL_law__700 : decode cL_law_ 700 = .ok (.iload 4, 2) := by decide +kernel
theorem dL_law__702 : decode cL_law_ 702 = .ok (.iconst 1, 1) := by decide +kernel
theorem dL_law__703 : decode cL_law_ 703 = .ok (.iadd, 1) := by decide +kernel
theorem dL_law__704 : decode cL_law_ 704 = .ok (.iaload, 1) := by decide +kernel
theorem dL_law__705 : decode cL_law_ 705 = .ok (.aload_n 0, 1) := by decide +kernel
theorem dL_law__706 : decode cL_law_ 706 = .ok (.iload 4, 2) := by decide +kernel
theorem dL_law__708 : decode cL_law_ 708 = .ok (.iconst 2, 1) := by decide +kernel
theorem dL_law__709 : decode cL_law_ 709 = .ok (.iadd, 1) := by decide +kernel
theorem dL_law__710 : decode cL_law_ 710 = .ok (.iaload, 1) := by decide +kernel
theorem dL_law__711 : decode cL_law_ 711 = .ok (.invokevirtual 152, 3) := by decide +kernel
theorem dL_law__714 : decode cL_law_ 714 = .ok (.istore 6, 2) := by decide +kernel
theorem dL_law__716 : decode cL_law_ 716 = .ok (.aload_n 2, 1) := by decide +kernel
theorem dL_law__717 : decode cL_law_ 717 = .ok (.invokevirtual 121, 3) := by decide +kernel
theorem dL_law__720 : decode cL_law_ 720 = .ok (.iload 5, 2) := by decide +kernel
theorem dL_law__722 : decode cL_law_ 722 = .ok (.if_icmp .eq 5, 3) := by decide +kernel
theorem dL_law__725 : decode cL_law_ 725 = .ok (.iconst 0, 1) := by decide +kernel
theorem dL_law__726 : decode cL_law_ 726 = .ok (.ireturn, 1) := by decide +kernel
theorem dL_law__727 : decode cL_law_ 727 = .ok (.iload 5, 2) := by decide +kernel
theorem dL_law__729 : decode cL_law_ 729 = .ok (.ifCond .ne 15, 3) := by decide +kernel
theorem dL_law__732 : decode cL_law_ 732 = .ok (.aload_n 3, 1) := by decide +kernel
theorem dL_law__733 : decode cL_law_ 733 = .ok (.iconst 0, 1) := by decide +kernel
theorem dL_law__734 : decode cL_law_ 734 = .ok (.laload, 1) := by decide +kernel
theorem dL_law__735 : decode cL_law_ 735 = .ok (.iload 6, 2) := by decide +kernel
theorem dL_law__737 : decode cL_law_ 737 = .ok (.i2l, 1) := by decide +kernel
theorem dL_law__738 : decode cL_law_ 738 = .ok (.lcmp, 1) := by decide +kernel
theorem dL_law__739 : decode cL_law_ 739 = .ok (.ifCond .eq 5, 3) := by decide +kernel
theorem dL_law__742 : decode cL_law_ 742 = .ok (.iconst 0, 1) := by decide +kernel
theorem dL_law__743 : decode cL_law_ 743 = .ok (.ireturn, 1) := by decide +kernel
theorem dL_law__744 : decode cL_law_ 744 = .ok (.goto 1563, 3) := by decide +kernel
theorem dL_law__747 : decode cL_law_ 747 = .ok (.aload_n 1, 1) := by decide +kernel
theorem dL_law__748 : decode cL_law_ 748 = .ok (.aload_n 0, 1) := by decide +kernel
theorem dL_law__749 : decode cL_law_ 749 = .ok (.iload 4, 2) := by decide +kernel
theorem dL_law__751 : decode cL_law_ 751 = .ok (.iconst 1, 1) := by decide +kernel
theorem dL_law__752 : decode cL_law_ 752 = .ok (.iadd, 1) := by decide +kernel
theorem dL_law__753 : decode cL_law_ 753 = .ok (.iaload, 1) := by decide +kernel
theorem dL_law__754 : decode cL_law_ 754 = .ok (.aload_n 0, 1) := by decide +kernel
theorem dL_law__755 : decode cL_law_ 755 = .ok (.iload 4, 2) := by decide +kernel
theorem dL_law__757 : decode cL_law_ 757 = .ok (.iconst 2, 1) := by decide +kernel
theorem dL_law__758 : decode cL_law_ 758 = .ok (.iadd, 1) := by decide +kernel
theorem dL_law__759 : decode cL_law_ 759 = .ok (.iaload, 1) := by decide +kernel
theorem dL_law__760 : decode cL_law_ 760 = .ok (.aload_n 3, 1) := by decide +kernel
theorem dL_law__761 : decode cL_law_ 761 = .ok (.invokestatic 153, 3) := by decide +kernel
theorem dL_law__764 : decode cL_law_ 764 = .ok (.istore 5, 2) := by decide +kernel
theorem dL_law__766 : decode cL_law_ 766 = .ok (.aload_n 2, 1) := by decide +kernel
theorem dL_law__767 : decode cL_law_ 767 = .ok (.aload_n 0, 1) := by decide +kernel
theorem dL_law__768 : decode cL_law_ 768 = .ok (.iload 4, 2) := by decide +kernel
theorem dL_law__770 : decode cL_law_ 770 = .ok (.iconst 1, 1) := by decide +kernel
theorem dL_law__771 : decode cL_law_ 771 = .ok (.iadd, 1) := by decide +kernel
theorem dL_law__772 : decode cL_law_ 772 = .ok (.iaload, 1) := by decide +kernel
theorem dL_law__773 : decode cL_law_ 773 = .ok (.aload_n 0, 1) := by decide +kernel
theorem dL_law__774 : decode cL_law_ 774 = .ok (.iload 4, 2) := by decide +kernel
theorem dL_law__776 : decode cL_law_ 776 = .ok (.iconst 2, 1) := by decide +kernel
theorem dL_law__777 : decode cL_law_ 777 = .ok (.iadd, 1) := by decide +kernel
theorem dL_law__778 : decode cL_law_ 778 = .ok (.iaload, 1) := by decide +kernel
theorem dL_law__779 : decode cL_law_ 779 = .ok (.invokevirtual 155, 3) := by decide +kernel
theorem dL_law__782 : decode cL_law_ 782 = .ok (.istore 6, 2) := by decide +kernel
theorem dL_law__784 : decode cL_law_ 784 = .ok (.aload_n 2, 1) := by decide +kernel
theorem dL_law__785 : decode cL_law_ 785 = .ok (.invokevirtual 121, 3) := by decide +kernel
theorem dL_law__788 : decode cL_law_ 788 = .ok (.iload 5, 2) := by decide +kernel
theorem dL_law__790 : decode cL_law_ 790 = .ok (.if_icmp .eq 5, 3) := by decide +kernel
theorem dL_law__793 : decode cL_law_ 793 = .ok (.iconst 0, 1) := by decide +kernel
theorem dL_law__794 : decode cL_law_ 794 = .ok (.ireturn, 1) := by decide +kernel
theorem dL_law__795 : decode cL_law_ 795 = .ok (.iload 5, 2) := by decide +kernel
theorem dL_law__797 : decode cL_law_ 797 = .ok (.ifCond .ne 15, 3) := by decide +kernel
theorem dL_law__800 : decode cL_law_ 800 = .ok (.aload_n 3, 1) := by decide +kernel
theorem dL_law__801 : decode cL_law_ 801 = .ok (.iconst 0, 1) := by decide +kernel
theorem dL_law__802 : decode cL_law_ 802 = .ok (.laload, 1) := by decide +kernel
theorem dL_law__803 : decode cL_law_ 803 = .ok (.iload 6, 2) := by decide +kernel
theorem dL_law__805 : decode cL_law_ 805 = .ok (.i2l, 1) := by decide +kernel
theorem dL_law__806 : decode cL_law_ 806 = .ok (.lcmp, 1) := by decide +kernel
theorem dL_law__807 : decode cL_law_ 807 = .ok (.ifCond .eq 5, 3) := by decide +kernel
theorem dL_law__810 : decode cL_law_ 810 = .ok (.iconst 0, 1) := by decide +kernel
theorem dL_law__811 : decode cL_law_ 811 = .ok (.ireturn, 1) := by decide +kernel
theorem dL_law__812 : decode cL_law_ 812 = .ok (.goto 1495, 3) := by decide +kernel
theorem dL_law__815 : decode cL_law_ 815 = .ok (.aload_n 1, 1) := by decide +kernel
theorem dL_law__816 : decode cL_law_ 816 = .ok (.aload_n 0, 1) := by decide +kernel
theorem dL_law__817 : decode cL_law_ 817 = .ok (.iload 4, 2) := by decide +kernel
theorem dL_law__819 : decode cL_law_ 819 = .ok (.iconst 1, 1) := by decide +kernel
theorem dL_law__820 : decode cL_law_ 820 = .ok (.iadd, 1) := by decide +kernel
theorem dL_law__821 : decode cL_law_ 821 = .ok (.iaload, 1) := by decide +kernel
theorem dL_law__822 : decode cL_law_ 822 = .ok (.aload_n 0, 1) := by decide +kernel
theorem dL_law__823 : decode cL_law_ 823 = .ok (.iload 4, 2) := by decide +kernel
theorem dL_law__825 : decode cL_law_ 825 = .ok (.iconst 2, 1) := by decide +kernel
theorem dL_law__826 : decode cL_law_ 826 = .ok (.iadd, 1) := by decide +kernel
theorem dL_law__827 : decode cL_law_ 827 = .ok (.iaload, 1) := by decide +kernel
theorem dL_law__828 : decode cL_law_ 828 = .ok (.aload_n 3, 1) := by decide +kernel
theorem dL_law__829 : decode cL_law_ 829 = .ok (.invokestatic 156, 3) := by decide +kernel
theorem dL_law__832 : decode cL_law_ 832 = .ok (.istore 5, 2) := by decide +kernel
theorem dL_law__834 : decode cL_law_ 834 = .ok (.aload_n 2, 1) := by decide +kernel
theorem dL_law__835 : decode cL_law_ 835 = .ok (.aload_n 0, 1) := by decide +kernel
theorem dL_law__836 : decode cL_law_ 836 = .ok (.iload 4, 2) := by decide +kernel
theorem dL_law__838 : decode cL_law_ 838 = .ok (.iconst 1, 1) := by decide +kernel
theorem dL_law__839 : decode cL_law_ 839 = .ok (.iadd, 1) := by decide +kernel
theorem dL_law__840 : decode cL_law_ 840 = .ok (.iaload, 1) := by decide +kernel
theorem dL_law__841 : decode cL_law_ 841 = .ok (.aload_n 0, 1) := by decide +kernel
theorem dL_law__842 : decode cL_law_ 842 = .ok (.iload 4, 2) := by decide +kernel
theorem dL_law__844 : decode cL_law_ 844 = .ok (.iconst 2, 1) := by decide +kernel
theorem dL_law__845 : decode cL_law_ 845 = .ok (.iadd, 1) := by decide +kernel
theorem dL_law__846 : decode cL_law_ 846 = .ok (.iaload, 1) := by decide +kernel
theorem dL_law__847 : decode cL_law_ 847 = .ok (.invokevirtual 158, 3) := by decide +kernel
theorem dL_law__850 : decode cL_law_ 850 = .ok (.istore 6, 2) := by decide +kernel
theorem dL_law__852 : decode cL_law_ 852 = .ok (.aload_n 2, 1) := by decide +kernel
theorem dL_law__853 : decode cL_law_ 853 = .ok (.invokevirtual 121, 3) := by decide +kernel
theorem dL_law__856 : decode cL_law_ 856 = .ok (.iload 5, 2) := by decide +kernel
theorem dL_law__858 : decode cL_law_ 858 = .ok (.if_icmp .eq 5, 3) := by decide +kernel
theorem dL_law__861 : decode cL_law_ 861 = .ok (.iconst 0, 1) := by decide +kernel
theorem dL_law__862 : decode cL_law_ 862 = .ok (.ireturn, 1) := by decide +kernel
theorem dL_law__863 : decode cL_law_ 863 = .ok (.iload 5, 2) := by decide +kernel
theorem dL_law__865 : decode cL_law_ 865 = .ok (.ifCond .ne 15, 3) := by decide +kernel
theorem dL_law__868 : decode cL_law_ 868 = .ok (.aload_n 3, 1) := by decide +kernel
theorem dL_law__869 : decode cL_law_ 869 = .ok (.iconst 0, 1) := by decide +kernel
theorem dL_law__870 : decode cL_law_ 870 = .ok (.laload, 1) := by decide +kernel
theorem dL_law__871 : decode cL_law_ 871 = .ok (.iload 6, 2) := by decide +kernel
theorem dL_law__873 : decode cL_law_ 873 = .ok (.i2l, 1) := by decide +kernel
theorem dL_law__874 : decode cL_law_ 874 = .ok (.lcmp, 1) := by decide +kernel
theorem dL_law__875 : decode cL_law_ 875 = .ok (.ifCond .eq 5, 3) := by decide +kernel
theorem dL_law__878 : decode cL_law_ 878 = .ok (.iconst 0, 1) := by decide +kernel
theorem dL_law__879 : decode cL_law_ 879 = .ok (.ireturn, 1) := by decide +kernel
theorem dL_law__880 : decode cL_law_ 880 = .ok (.goto 1427, 3) := by decide +kernel
theorem dL_law__883 : decode cL_law_ 883 = .ok (.aload_n 1, 1) := by decide +kernel
theorem dL_law__884 : decode cL_law_ 884 = .ok (.aload_n 0, 1) := by decide +kernel
theorem dL_law__885 : decode cL_law_ 885 = .ok (.iload 4, 2) := by decide +kernel
theorem dL_law__887 : decode cL_law_ 887 = .ok (.iconst 1, 1) := by decide +kernel
theorem dL_law__888 : decode cL_law_ 888 = .ok (.iadd, 1) := by decide +kernel
theorem dL_law__889 : decode cL_law_ 889 = .ok (.iaload, 1) := by decide +kernel
theorem dL_law__890 : decode cL_law_ 890 = .ok (.aload_n 3, 1) := by decide +kernel
theorem dL_law__891 : decode cL_law_ 891 = .ok (.invokestatic 159, 3) := by decide +kernel
theorem dL_law__894 : decode cL_law_ 894 = .ok (.istore 5, 2) := by decide +kernel
theorem dL_law__896 : decode cL_law_ 896 = .ok (.aload_n 2, 1) := by decide +kernel
theorem dL_law__897 : decode cL_law_ 897 = .ok (.aload_n 0, 1) := by decide +kernel
theorem dL_law__898 : decode cL_law_ 898 = .ok (.iload 4, 2) := by decide +kernel
theorem dL_law__900 : decode cL_law_ 900 = .ok (.iconst 1, 1) := by decide +kernel
theorem dL_law__901 : decode cL_law_ 901 = .ok (.iadd, 1) := by decide +kernel
theorem dL_law__902 : decode cL_law_ 902 = .ok (.iaload, 1) := by decide +kernel
theorem dL_law__903 : decode cL_law_ 903 = .ok (.invokevirtual 161, 3) := by decide +kernel
theorem dL_law__906 : decode cL_law_ 906 = .ok (.istore 6, 2) := by decide +kernel
theorem dL_law__908 : decode cL_law_ 908 = .ok (.aload_n 2, 1) := by decide +kernel
theorem dL_law__909 : decode cL_law_ 909 = .ok (.invokevirtual 121, 3) := by decide +kernel
theorem dL_law__912 : decode cL_law_ 912 = .ok (.iload 5, 2) := by decide +kernel
theorem dL_law__914 : decode cL_law_ 914 = .ok (.if_icmp .eq 5, 3) := by decide +kernel
theorem dL_law__917 : decode cL_law_ 917 = .ok (.iconst 0, 1) := by decide +kernel
theorem dL_law__918 : decode cL_law_ 918 = .ok (.ireturn, 1) := by decide +kernel
theorem dL_law__919 : decode cL_law_ 919 = .ok (.iload 5, 2) := by decide +kernel
theorem dL_law__921 : decode cL_law_ 921 = .ok (.ifCond .ne 15, 3) := by decide +kernel
theorem dL_law__924 : decode cL_law_ 924 = .ok (.aload_n 3, 1) := by decide +kernel
theorem dL_law__925 : decode cL_law_ 925 = .ok (.iconst 0, 1) := by decide +kernel
theorem dL_law__926 : decode cL_law_ 926 = .ok (.laload, 1) := by decide +kernel
theorem dL_law__927 : decode cL_law_ 927 = .ok (.iload 6, 2) := by decide +kernel
theorem dL_law__929 : decode cL_law_ 929 = .ok (.i2l, 1) := by decide +kernel
theorem dL_law__930 : decode cL_law_ 930 = .ok (.lcmp, 1) := by decide +kernel
theorem dL_law__931 : decode cL_law_ 931 = .ok (.ifCond .eq 5, 3) := by decide +kernel
theorem dL_law__934 : decode cL_law_ 934 = .ok (.iconst 0, 1) := by decide +kernel
theorem dL_law__935 : decode cL_law_ 935 = .ok (.ireturn, 1) := by decide +kernel
theorem dL_law__936 : decode cL_law_ 936 = .ok (.goto 1371, 3) := by decide +kernel
theorem dL_law__939 : decode cL_law_ 939 = .ok (.aload_n 1, 1) := by decide +kernel
theorem dL_law__940 : decode cL_law_ 940 = .ok (.aload_n 0, 1) := by decide +kernel
theorem dL_law__941 : decode cL_law_ 941 = .ok (.iload 4, 2) := by decide +kernel
theorem dL_law__943 : decode cL_law_ 943 = .ok (.iconst 1, 1) := by decide +kernel
theorem dL_law__944 : decode cL_law_ 944 = .ok (.iadd, 1) := by decide +kernel
theorem dL_law__945 : decode cL_law_ 945 = .ok (.iaload, 1) := by decide +kernel
theorem dL_law__946 : decode cL_law_ 946 = .ok (.aload_n 0, 1) := by decide +kernel
theorem dL_law__947 : decode cL_law_ 947 = .ok (.iload 4, 2) := by decide +kernel
theorem dL_law__949 : decode cL_law_ 949 = .ok (.iconst 2, 1) := by decide +kernel
theorem dL_law__950 : decode cL_law_ 950 = .ok (.iadd, 1) := by decide +kernel
theorem dL_law__951 : decode cL_law_ 951 = .ok (.iaload, 1) := by decide +kernel
theorem dL_law__952 : decode cL_law_ 952 = .ok (.aload_n 3, 1) := by decide +kernel
theorem dL_law__953 : decode cL_law_ 953 = .ok (.invokestatic 162, 3) := by decide +kernel
theorem dL_law__956 : decode cL_law_ 956 = .ok (.istore 5, 2) := by decide +kernel
theorem dL_law__958 : decode cL_law_ 958 = .ok (.aload_n 2, 1) := by decide +kernel
theorem dL_law__959 : decode cL_law_ 959 = .ok (.aload_n 0, 1) := by decide +kernel
theorem dL_law__960 : decode cL_law_ 960 = .ok (.iload 4, 2) := by decide +kernel
theorem dL_law__962 : decode cL_law_ 962 = .ok (.iconst 1, 1) := by decide +kernel
theorem dL_law__963 : decode cL_law_ 963 = .ok (.iadd, 1) := by decide +kernel
theorem dL_law__964 : decode cL_law_ 964 = .ok (.iaload, 1) := by decide +kernel
theorem dL_law__965 : decode cL_law_ 965 = .ok (.aload_n 0, 1) := by decide +kernel
theorem dL_law__966 : decode cL_law_ 966 = .ok (.iload 4, 2) := by decide +kernel
theorem dL_law__968 : decode cL_law_ 968 = .ok (.iconst 2, 1) := by decide +kernel
theorem dL_law__969 : decode cL_law_ 969 = .ok (.iadd, 1) := by decide +kernel
theorem dL_law__970 : decode cL_law_ 970 = .ok (.iaload, 1) := by decide +kernel
theorem dL_law__971 : decode cL_law_ 971 = .ok (.invokevirtual 164, 3) := by decide +kernel
theorem dL_law__974 : decode cL_law_ 974 = .ok (.istore 6, 2) := by decide +kernel
theorem dL_law__976 : decode cL_law_ 976 = .ok (.aload_n 2, 1) := by decide +kernel
theorem dL_law__977 : decode cL_law_ 977 = .ok (.invokevirtual 121, 3) := by decide +kernel
theorem dL_law__980 : decode cL_law_ 980 = .ok (.iload 5, 2) := by decide +kernel
theorem dL_law__982 : decode cL_law_ 982 = .ok (.if_icmp .eq 5, 3) := by decide +kernel
theorem dL_law__985 : decode cL_law_ 985 = .ok (.iconst 0, 1) := by decide +kernel
theorem dL_law__986 : decode cL_law_ 986 = .ok (.ireturn, 1) := by decide +kernel
theorem dL_law__987 : decode cL_law_ 987 = .ok (.iload 5, 2) := by decide +kernel
theorem dL_law__989 : decode cL_law_ 989 = .ok (.ifCond .ne 15, 3) := by decide +kernel
theorem dL_law__992 : decode cL_law_ 992 = .ok (.aload_n 3, 1) := by decide +kernel
theorem dL_law__993 : decode cL_law_ 993 = .ok (.iconst 0, 1) := by decide +kernel
theorem dL_law__994 : decode cL_law_ 994 = .ok (.laload, 1) := by decide +kernel
theorem dL_law__995 : decode cL_law_ 995 = .ok (.iload 6, 2) := by decide +kernel
theorem dL_law__997 : decode cL_law_ 997 = .ok (.i2l, 1) := by decide +kernel
theorem dL_law__998 : decode cL_law_ 998 = .ok (.lcmp, 1) := by decide +kernel
theorem dL_law__999 : decode cL_law_ 999 = .ok (.ifCond .eq 5, 3) := by decide +kernel
theorem dL_law__1002 : decode cL_law_ 1002 = .ok (.iconst 0, 1) := by decide +kernel
theorem dL_law__1003 : decode cL_law_ 1003 = .ok (.ireturn, 1) := by decide +kernel
theorem dL_law__1004 : decode cL_law_ 1004 = .ok (.goto 1303, 3) := by decide +kernel
theorem dL_law__1007 : decode cL_law_ 1007 = .ok (.aload_n 1, 1) := by decide +kernel
theorem dL_law__1008 : decode cL_law_ 1008 = .ok (.aload_n 0, 1) := by decide +kernel
theorem dL_law__1009 : decode cL_law_ 1009 = .ok (.iload 4, 2) := by decide +kernel
theorem dL_law__1011 : decode cL_law_ 1011 = .ok (.iconst 1, 1) := by decide +kernel
theorem dL_law__1012 : decode cL_law_ 1012 = .ok (.iadd, 1) := by decide +kernel
theorem dL_law__1013 : decode cL_law_ 1013 = .ok (.iaload, 1) := by decide +kernel
theorem dL_law__1014 : decode cL_law_ 1014 = .ok (.aload_n 0, 1) := by decide +kernel
theorem dL_law__1015 : decode cL_law_ 1015 = .ok (.iload 4, 2) := by decide +kernel
theorem dL_law__1017 : decode cL_law_ 1017 = .ok (.iconst 2, 1) := by decide +kernel
theorem dL_law__1018 : decode cL_law_ 1018 = .ok (.iadd, 1) := by decide +kernel
theorem dL_law__1019 : decode cL_law_ 1019 = .ok (.iaload, 1) := by decide +kernel
theorem dL_law__1020 : decode cL_law_ 1020 = .ok (.aload_n 3, 1) := by decide +kernel
theorem dL_law__1021 : decode cL_law_ 1021 = .ok (.invokestatic 165, 3) := by decide +kernel
theorem dL_law__1024 : decode cL_law_ 1024 = .ok (.istore 5, 2) := by decide +kernel
theorem dL_law__1026 : decode cL_law_ 1026 = .ok (.aload_n 2, 1) := by decide +kernel
theorem dL_law__1027 : decode cL_law_ 1027 = .ok (.aload_n 0, 1) := by decide +kernel
theorem dL_law__1028 : decode cL_law_ 1028 = .ok (.iload 4, 2) := by decide +kernel
theorem dL_law__1030 : decode cL_law_ 1030 = .ok (.iconst 1, 1) := by decide +kernel
theorem dL_law__1031 : decode cL_law_ 1031 = .ok (.iadd, 1) := by decide +kernel
theorem dL_law__1032 : decode cL_law_ 1032 = .ok (.iaload, 1) := by decide +kernel
theorem dL_law__1033 : decode cL_law_ 1033 = .ok (.aload_n 0, 1) := by decide +kernel
theorem dL_law__1034 : decode cL_law_ 1034 = .ok (.iload 4, 2) := by decide +kernel
theorem dL_law__1036 : decode cL_law_ 1036 = .ok (.iconst 2, 1) := by decide +kernel
theorem dL_law__1037 : decode cL_law_ 1037 = .ok (.iadd, 1) := by decide +kernel
theorem dL_law__1038 : decode cL_law_ 1038 = .ok (.iaload, 1) := by decide +kernel
theorem dL_law__1039 : decode cL_law_ 1039 = .ok (.invokevirtual 167, 3) := by decide +kernel
theorem dL_law__1042 : decode cL_law_ 1042 = .ok (.istore 6, 2) := by decide +kernel
theorem dL_law__1044 : decode cL_law_ 1044 = .ok (.aload_n 2, 1) := by decide +kernel
theorem dL_law__1045 : decode cL_law_ 1045 = .ok (.invokevirtual 121, 3) := by decide +kernel
theorem dL_law__1048 : decode cL_law_ 1048 = .ok (.iload 5, 2) := by decide +kernel
theorem dL_law__1050 : decode cL_law_ 1050 = .ok (.if_icmp .eq 5, 3) := by decide +kernel
theorem dL_law__1053 : decode cL_law_ 1053 = .ok (.iconst 0, 1) := by decide +kernel
theorem dL_law__1054 : decode cL_law_ 1054 = .ok (.ireturn, 1) := by decide +kernel
theorem dL_law__1055 : decode cL_law_ 1055 = .ok (.iload 5, 2) := by decide +kernel
theorem dL_law__1057 : decode cL_law_ 1057 = .ok (.ifCond .ne 22, 3) := by decide +kernel
theorem dL_law__1060 : decode cL_law_ 1060 = .ok (.aload_n 3, 1) := by decide +kernel
theorem dL_law__1061 : decode cL_law_ 1061 = .ok (.iconst 0, 1) := by decide +kernel
theorem dL_law__1062 : decode cL_law_ 1062 = .ok (.laload, 1) := by decide +kernel
theorem dL_law__1063 : decode cL_law_ 1063 = .ok (.iload 6, 2) := by decide +kernel
theorem dL_law__1065 : decode cL_law_ 1065 = .ok (.ifCond .eq 7, 3) := by decide +kernel
theorem dL_law__1068 : decode cL_law_ 1068 = .ok (.lconst 1, 1) := by decide +kernel
theorem dL_law__1069 : decode cL_law_ 1069 = .ok (.goto 4, 3) := by decide +kernel
theorem dL_law__1072 : decode cL_law_ 1072 = .ok (.lconst 0, 1) := by decide +kernel
theorem dL_law__1073 : decode cL_law_ 1073 = .ok (.lcmp, 1) := by decide +kernel
theorem dL_law__1074 : decode cL_law_ 1074 = .ok (.ifCond .eq 5, 3) := by decide +kernel
theorem dL_law__1077 : decode cL_law_ 1077 = .ok (.iconst 0, 1) := by decide +kernel
theorem dL_law__1078 : decode cL_law_ 1078 = .ok (.ireturn, 1) := by decide +kernel
theorem dL_law__1079 : decode cL_law_ 1079 = .ok (.goto 1228, 3) := by decide +kernel
theorem dL_law__1082 : decode cL_law_ 1082 = .ok (.aload_n 1, 1) := by decide +kernel
theorem dL_law__1083 : decode cL_law_ 1083 = .ok (.aload_n 0, 1) := by decide +kernel
theorem dL_law__1084 : decode cL_law_ 1084 = .ok (.iload 4, 2) := by decide +kernel
theorem dL_law__1086 : decode cL_law_ 1086 = .ok (.iconst 1, 1) := by decide +kernel
theorem dL_law__1087 : decode cL_law_ 1087 = .ok (.iadd, 1) := by decide +kernel
theorem dL_law__1088 : decode cL_law_ 1088 = .ok (.iaload, 1) := by decide +kernel
theorem dL_law__1089 : decode cL_law_ 1089 = .ok (.aload_n 0, 1) := by decide +kernel
theorem dL_law__1090 : decode cL_law_ 1090 = .ok (.iload 4, 2) := by decide +kernel
theorem dL_law__1092 : decode cL_law_ 1092 = .ok (.iconst 2, 1) := by decide +kernel
theorem dL_law__1093 : decode cL_law_ 1093 = .ok (.iadd, 1) := by decide +kernel
theorem dL_law__1094 : decode cL_law_ 1094 = .ok (.iaload, 1) := by decide +kernel
theorem dL_law__1095 : decode cL_law_ 1095 = .ok (.aload_n 3, 1) := by decide +kernel
theorem dL_law__1096 : decode cL_law_ 1096 = .ok (.invokestatic 168, 3) := by decide +kernel
theorem dL_law__1099 : decode cL_law_ 1099 = .ok (.istore 5, 2) := by decide +kernel
theorem dL_law__1101 : decode cL_law_ 1101 = .ok (.aload_n 2, 1) := by decide +kernel
theorem dL_law__1102 : decode cL_law_ 1102 = .ok (.aload_n 0, 1) := by decide +kernel
theorem dL_law__1103 : decode cL_law_ 1103 = .ok (.iload 4, 2) := by decide +kernel
theorem dL_law__1105 : decode cL_law_ 1105 = .ok (.iconst 1, 1) := by decide +kernel
theorem dL_law__1106 : decode cL_law_ 1106 = .ok (.iadd, 1) := by decide +kernel
theorem dL_law__1107 : decode cL_law_ 1107 = .ok (.iaload, 1) := by decide +kernel
theorem dL_law__1108 : decode cL_law_ 1108 = .ok (.aload_n 0, 1) := by decide +kernel
theorem dL_law__1109 : decode cL_law_ 1109 = .ok (.iload 4, 2) := by decide +kernel
theorem dL_law__1111 : decode cL_law_ 1111 = .ok (.iconst 2, 1) := by decide +kernel
theorem dL_law__1112 : decode cL_law_ 1112 = .ok (.iadd, 1) := by decide +kernel
theorem dL_law__1113 : decode cL_law_ 1113 = .ok (.iaload, 1) := by decide +kernel
theorem dL_law__1114 : decode cL_law_ 1114 = .ok (.invokevirtual 170, 3) := by decide +kernel
theorem dL_law__1117 : decode cL_law_ 1117 = .ok (.istore 6, 2) := by decide +kernel
theorem dL_law__1119 : decode cL_law_ 1119 = .ok (.aload_n 2, 1) := by decide +kernel
theorem dL_law__1120 : decode cL_law_ 1120 = .ok (.invokevirtual 121, 3) := by decide +kernel
theorem dL_law__1123 : decode cL_law_ 1123 = .ok (.iload 5, 2) := by decide +kernel
theorem dL_law__1125 : decode cL_law_ 1125 = .ok (.if_icmp .eq 5, 3) := by decide +kernel
theorem dL_law__1128 : decode cL_law_ 1128 = .ok (.iconst 0, 1) := by decide +kernel
theorem dL_law__1129 : decode cL_law_ 1129 = .ok (.ireturn, 1) := by decide +kernel
theorem dL_law__1130 : decode cL_law_ 1130 = .ok (.iload 5, 2) := by decide +kernel
theorem dL_law__1132 : decode cL_law_ 1132 = .ok (.ifCond .ne 15, 3) := by decide +kernel
theorem dL_law__1135 : decode cL_law_ 1135 = .ok (.aload_n 3, 1) := by decide +kernel
theorem dL_law__1136 : decode cL_law_ 1136 = .ok (.iconst 0, 1) := by decide +kernel
theorem dL_law__1137 : decode cL_law_ 1137 = .ok (.laload, 1) := by decide +kernel
theorem dL_law__1138 : decode cL_law_ 1138 = .ok (.iload 6, 2) := by decide +kernel
theorem dL_law__1140 : decode cL_law_ 1140 = .ok (.i2l, 1) := by decide +kernel
theorem dL_law__1141 : decode cL_law_ 1141 = .ok (.lcmp, 1) := by decide +kernel
theorem dL_law__1142 : decode cL_law_ 1142 = .ok (.ifCond .eq 5, 3) := by decide +kernel
theorem dL_law__1145 : decode cL_law_ 1145 = .ok (.iconst 0, 1) := by decide +kernel
theorem dL_law__1146 : decode cL_law_ 1146 = .ok (.ireturn, 1) := by decide +kernel
theorem dL_law__1147 : decode cL_law_ 1147 = .ok (.goto 1160, 3) := by decide +kernel
theorem dL_law__1150 : decode cL_law_ 1150 = .ok (.aload_n 1, 1) := by decide +kernel
theorem dL_law__1151 : decode cL_law_ 1151 = .ok (.aload_n 0, 1) := by decide +kernel
theorem dL_law__1152 : decode cL_law_ 1152 = .ok (.iload 4, 2) := by decide +kernel
theorem dL_law__1154 : decode cL_law_ 1154 = .ok (.iconst 1, 1) := by decide +kernel
theorem dL_law__1155 : decode cL_law_ 1155 = .ok (.iadd, 1) := by decide +kernel
theorem dL_law__1156 : decode cL_law_ 1156 = .ok (.iaload, 1) := by decide +kernel
theorem dL_law__1157 : decode cL_law_ 1157 = .ok (.aload_n 0, 1) := by decide +kernel
theorem dL_law__1158 : decode cL_law_ 1158 = .ok (.iload 4, 2) := by decide +kernel
theorem dL_law__1160 : decode cL_law_ 1160 = .ok (.iconst 2, 1) := by decide +kernel
theorem dL_law__1161 : decode cL_law_ 1161 = .ok (.iadd, 1) := by decide +kernel
theorem dL_law__1162 : decode cL_law_ 1162 = .ok (.iaload, 1) := by decide +kernel
theorem dL_law__1163 : decode cL_law_ 1163 = .ok (.aload_n 3, 1) := by decide +kernel
theorem dL_law__1164 : decode cL_law_ 1164 = .ok (.invokestatic 171, 3) := by decide +kernel
theorem dL_law__1167 : decode cL_law_ 1167 = .ok (.istore 5, 2) := by decide +kernel
theorem dL_law__1169 : decode cL_law_ 1169 = .ok (.aload_n 2, 1) := by decide +kernel
theorem dL_law__1170 : decode cL_law_ 1170 = .ok (.aload_n 0, 1) := by decide +kernel
theorem dL_law__1171 : decode cL_law_ 1171 = .ok (.iload 4, 2) := by decide +kernel
theorem dL_law__1173 : decode cL_law_ 1173 = .ok (.iconst 1, 1) := by decide +kernel
theorem dL_law__1174 : decode cL_law_ 1174 = .ok (.iadd, 1) := by decide +kernel
theorem dL_law__1175 : decode cL_law_ 1175 = .ok (.iaload, 1) := by decide +kernel
theorem dL_law__1176 : decode cL_law_ 1176 = .ok (.aload_n 0, 1) := by decide +kernel
theorem dL_law__1177 : decode cL_law_ 1177 = .ok (.iload 4, 2) := by decide +kernel
theorem dL_law__1179 : decode cL_law_ 1179 = .ok (.iconst 2, 1) := by decide +kernel
theorem dL_law__1180 : decode cL_law_ 1180 = .ok (.iadd, 1) := by decide +kernel
theorem dL_law__1181 : decode cL_law_ 1181 = .ok (.iaload, 1) := by decide +kernel
theorem dL_law__1182 : decode cL_law_ 1182 = .ok (.invokevirtual 173, 3) := by decide +kernel
theorem dL_law__1185 : decode cL_law_ 1185 = .ok (.istore 6, 2) := by decide +kernel
theorem dL_law__1187 : decode cL_law_ 1187 = .ok (.aload_n 2, 1) := by decide +kernel
theorem dL_law__1188 : decode cL_law_ 1188 = .ok (.invokevirtual 121, 3) := by decide +kernel
theorem dL_law__1191 : decode cL_law_ 1191 = .ok (.iload 5, 2) := by decide +kernel
theorem dL_law__1193 : decode cL_law_ 1193 = .ok (.if_icmp .eq 5, 3) := by decide +kernel
theorem dL_law__1196 : decode cL_law_ 1196 = .ok (.iconst 0, 1) := by decide +kernel
theorem dL_law__1197 : decode cL_law_ 1197 = .ok (.ireturn, 1) := by decide +kernel
theorem dL_law__1198 : decode cL_law_ 1198 = .ok (.iload 5, 2) := by decide +kernel
theorem dL_law__1200 : decode cL_law_ 1200 = .ok (.ifCond .ne 15, 3) := by decide +kernel
theorem dL_law__1203 : decode cL_law_ 1203 = .ok (.aload_n 3, 1) := by decide +kernel
theorem dL_law__1204 : decode cL_law_ 1204 = .ok (.iconst 0, 1) := by decide +kernel
theorem dL_law__1205 : decode cL_law_ 1205 = .ok (.laload, 1) := by decide +kernel
theorem dL_law__1206 : decode cL_law_ 1206 = .ok (.iload 6, 2) := by decide +kernel
theorem dL_law__1208 : decode cL_law_ 1208 = .ok (.i2l, 1) := by decide +kernel
theorem dL_law__1209 : decode cL_law_ 1209 = .ok (.lcmp, 1) := by decide +kernel
theorem dL_law__1210 : decode cL_law_ 1210 = .ok (.ifCond .eq 5, 3) := by decide +kernel
theorem dL_law__1213 : decode cL_law_ 1213 = .ok (.iconst 0, 1) := by decide +kernel
theorem dL_law__1214 : decode cL_law_ 1214 = .ok (.ireturn, 1) := by decide +kernel
theorem dL_law__1215 : decode cL_law_ 1215 = .ok (.goto 1092, 3) := by decide +kernel
theorem dL_law__1218 : decode cL_law_ 1218 = .ok (.aload_n 1, 1) := by decide +kernel
theorem dL_law__1219 : decode cL_law_ 1219 = .ok (.aload_n 0, 1) := by decide +kernel
theorem dL_law__1220 : decode cL_law_ 1220 = .ok (.iload 4, 2) := by decide +kernel
theorem dL_law__1222 : decode cL_law_ 1222 = .ok (.iconst 1, 1) := by decide +kernel
theorem dL_law__1223 : decode cL_law_ 1223 = .ok (.iadd, 1) := by decide +kernel
theorem dL_law__1224 : decode cL_law_ 1224 = .ok (.iaload, 1) := by decide +kernel
theorem dL_law__1225 : decode cL_law_ 1225 = .ok (.aload_n 0, 1) := by decide +kernel
theorem dL_law__1226 : decode cL_law_ 1226 = .ok (.iload 4, 2) := by decide +kernel
theorem dL_law__1228 : decode cL_law_ 1228 = .ok (.iconst 2, 1) := by decide +kernel
theorem dL_law__1229 : decode cL_law_ 1229 = .ok (.iadd, 1) := by decide +kernel
theorem dL_law__1230 : decode cL_law_ 1230 = .ok (.iaload, 1) := by decide +kernel
theorem dL_law__1231 : decode cL_law_ 1231 = .ok (.aload_n 3, 1) := by decide +kernel
theorem dL_law__1232 : decode cL_law_ 1232 = .ok (.invokestatic 174, 3) := by decide +kernel
theorem dL_law__1235 : decode cL_law_ 1235 = .ok (.istore 5, 2) := by decide +kernel
theorem dL_law__1237 : decode cL_law_ 1237 = .ok (.aload_n 2, 1) := by decide +kernel
theorem dL_law__1238 : decode cL_law_ 1238 = .ok (.aload_n 0, 1) := by decide +kernel
theorem dL_law__1239 : decode cL_law_ 1239 = .ok (.iload 4, 2) := by decide +kernel
theorem dL_law__1241 : decode cL_law_ 1241 = .ok (.iconst 1, 1) := by decide +kernel
theorem dL_law__1242 : decode cL_law_ 1242 = .ok (.iadd, 1) := by decide +kernel
theorem dL_law__1243 : decode cL_law_ 1243 = .ok (.iaload, 1) := by decide +kernel
theorem dL_law__1244 : decode cL_law_ 1244 = .ok (.aload_n 0, 1) := by decide +kernel
theorem dL_law__1245 : decode cL_law_ 1245 = .ok (.iload 4, 2) := by decide +kernel
theorem dL_law__1247 : decode cL_law_ 1247 = .ok (.iconst 2, 1) := by decide +kernel
theorem dL_law__1248 : decode cL_law_ 1248 = .ok (.iadd, 1) := by decide +kernel
theorem dL_law__1249 : decode cL_law_ 1249 = .ok (.iaload, 1) := by decide +kernel
theorem dL_law__1250 : decode cL_law_ 1250 = .ok (.invokevirtual 176, 3) := by decide +kernel
theorem dL_law__1253 : decode cL_law_ 1253 = .ok (.lstore 6, 2) := by decide +kernel
theorem dL_law__1255 : decode cL_law_ 1255 = .ok (.aload_n 2, 1) := by decide +kernel
theorem dL_law__1256 : decode cL_law_ 1256 = .ok (.invokevirtual 121, 3) := by decide +kernel
theorem dL_law__1259 : decode cL_law_ 1259 = .ok (.iload 5, 2) := by decide +kernel
theorem dL_law__1261 : decode cL_law_ 1261 = .ok (.if_icmp .eq 5, 3) := by decide +kernel
theorem dL_law__1264 : decode cL_law_ 1264 = .ok (.iconst 0, 1) := by decide +kernel
theorem dL_law__1265 : decode cL_law_ 1265 = .ok (.ireturn, 1) := by decide +kernel
theorem dL_law__1266 : decode cL_law_ 1266 = .ok (.iload 5, 2) := by decide +kernel
theorem dL_law__1268 : decode cL_law_ 1268 = .ok (.ifCond .ne 14, 3) := by decide +kernel
theorem dL_law__1271 : decode cL_law_ 1271 = .ok (.aload_n 3, 1) := by decide +kernel
theorem dL_law__1272 : decode cL_law_ 1272 = .ok (.iconst 0, 1) := by decide +kernel
theorem dL_law__1273 : decode cL_law_ 1273 = .ok (.laload, 1) := by decide +kernel
theorem dL_law__1274 : decode cL_law_ 1274 = .ok (.lload 6, 2) := by decide +kernel
theorem dL_law__1276 : decode cL_law_ 1276 = .ok (.lcmp, 1) := by decide +kernel
theorem dL_law__1277 : decode cL_law_ 1277 = .ok (.ifCond .eq 5, 3) := by decide +kernel
theorem dL_law__1280 : decode cL_law_ 1280 = .ok (.iconst 0, 1) := by decide +kernel
theorem dL_law__1281 : decode cL_law_ 1281 = .ok (.ireturn, 1) := by decide +kernel
theorem dL_law__1282 : decode cL_law_ 1282 = .ok (.goto 1025, 3) := by decide +kernel
theorem dL_law__1285 : decode cL_law_ 1285 = .ok (.aload_n 1, 1) := by decide +kernel
theorem dL_law__1286 : decode cL_law_ 1286 = .ok (.aload_n 0, 1) := by decide +kernel
theorem dL_law__1287 : decode cL_law_ 1287 = .ok (.iload 4, 2) := by decide +kernel
theorem dL_law__1289 : decode cL_law_ 1289 = .ok (.iconst 1, 1) := by decide +kernel
theorem dL_law__1290 : decode cL_law_ 1290 = .ok (.iadd, 1) := by decide +kernel
theorem dL_law__1291 : decode cL_law_ 1291 = .ok (.iaload, 1) := by decide +kernel
theorem dL_law__1292 : decode cL_law_ 1292 = .ok (.aload_n 0, 1) := by decide +kernel
theorem dL_law__1293 : decode cL_law_ 1293 = .ok (.iload 4, 2) := by decide +kernel
theorem dL_law__1295 : decode cL_law_ 1295 = .ok (.iconst 2, 1) := by decide +kernel
theorem dL_law__1296 : decode cL_law_ 1296 = .ok (.iadd, 1) := by decide +kernel
theorem dL_law__1297 : decode cL_law_ 1297 = .ok (.iaload, 1) := by decide +kernel
theorem dL_law__1298 : decode cL_law_ 1298 = .ok (.aload_n 0, 1) := by decide +kernel
theorem dL_law__1299 : decode cL_law_ 1299 = .ok (.iload 4, 2) := by decide +kernel
theorem dL_law__1301 : decode cL_law_ 1301 = .ok (.iconst 3, 1) := by decide +kernel
theorem dL_law__1302 : decode cL_law_ 1302 = .ok (.iadd, 1) := by decide +kernel
theorem dL_law__1303 : decode cL_law_ 1303 = .ok (.iaload, 1) := by decide +kernel
theorem dL_law__1304 : decode cL_law_ 1304 = .ok (.aload_n 3, 1) := by decide +kernel
theorem dL_law__1305 : decode cL_law_ 1305 = .ok (.invokestatic 177, 3) := by decide +kernel
theorem dL_law__1308 : decode cL_law_ 1308 = .ok (.istore 5, 2) := by decide +kernel
theorem dL_law__1310 : decode cL_law_ 1310 = .ok (.aload_n 2, 1) := by decide +kernel
theorem dL_law__1311 : decode cL_law_ 1311 = .ok (.aload_n 0, 1) := by decide +kernel
theorem dL_law__1312 : decode cL_law_ 1312 = .ok (.iload 4, 2) := by decide +kernel
theorem dL_law__1314 : decode cL_law_ 1314 = .ok (.iconst 1, 1) := by decide +kernel
theorem dL_law__1315 : decode cL_law_ 1315 = .ok (.iadd, 1) := by decide +kernel
theorem dL_law__1316 : decode cL_law_ 1316 = .ok (.iaload, 1) := by decide +kernel
theorem dL_law__1317 : decode cL_law_ 1317 = .ok (.aload_n 0, 1) := by decide +kernel
theorem dL_law__1318 : decode cL_law_ 1318 = .ok (.iload 4, 2) := by decide +kernel
theorem dL_law__1320 : decode cL_law_ 1320 = .ok (.iconst 2, 1) := by decide +kernel
theorem dL_law__1321 : decode cL_law_ 1321 = .ok (.iadd, 1) := by decide +kernel
theorem dL_law__1322 : decode cL_law_ 1322 = .ok (.iaload, 1) := by decide +kernel
theorem dL_law__1323 : decode cL_law_ 1323 = .ok (.aload_n 0, 1) := by decide +kernel
theorem dL_law__1324 : decode cL_law_ 1324 = .ok (.iload 4, 2) := by decide +kernel
theorem dL_law__1326 : decode cL_law_ 1326 = .ok (.iconst 3, 1) := by decide +kernel
theorem dL_law__1327 : decode cL_law_ 1327 = .ok (.iadd, 1) := by decide +kernel
theorem dL_law__1328 : decode cL_law_ 1328 = .ok (.iaload, 1) := by decide +kernel
theorem dL_law__1329 : decode cL_law_ 1329 = .ok (.invokevirtual 179, 3) := by decide +kernel
theorem dL_law__1332 : decode cL_law_ 1332 = .ok (.istore 6, 2) := by decide +kernel
theorem dL_law__1334 : decode cL_law_ 1334 = .ok (.aload_n 2, 1) := by decide +kernel
theorem dL_law__1335 : decode cL_law_ 1335 = .ok (.invokevirtual 121, 3) := by decide +kernel
theorem dL_law__1338 : decode cL_law_ 1338 = .ok (.iload 5, 2) := by decide +kernel
theorem dL_law__1340 : decode cL_law_ 1340 = .ok (.if_icmp .eq 5, 3) := by decide +kernel
theorem dL_law__1343 : decode cL_law_ 1343 = .ok (.iconst 0, 1) := by decide +kernel
theorem dL_law__1344 : decode cL_law_ 1344 = .ok (.ireturn, 1) := by decide +kernel
theorem dL_law__1345 : decode cL_law_ 1345 = .ok (.iload 5, 2) := by decide +kernel
theorem dL_law__1347 : decode cL_law_ 1347 = .ok (.ifCond .ne 15, 3) := by decide +kernel
theorem dL_law__1350 : decode cL_law_ 1350 = .ok (.aload_n 3, 1) := by decide +kernel
theorem dL_law__1351 : decode cL_law_ 1351 = .ok (.iconst 0, 1) := by decide +kernel
theorem dL_law__1352 : decode cL_law_ 1352 = .ok (.laload, 1) := by decide +kernel
theorem dL_law__1353 : decode cL_law_ 1353 = .ok (.iload 6, 2) := by decide +kernel
theorem dL_law__1355 : decode cL_law_ 1355 = .ok (.i2l, 1) := by decide +kernel
theorem dL_law__1356 : decode cL_law_ 1356 = .ok (.lcmp, 1) := by decide +kernel
theorem dL_law__1357 : decode cL_law_ 1357 = .ok (.ifCond .eq 5, 3) := by decide +kernel
theorem dL_law__1360 : decode cL_law_ 1360 = .ok (.iconst 0, 1) := by decide +kernel
theorem dL_law__1361 : decode cL_law_ 1361 = .ok (.ireturn, 1) := by decide +kernel
theorem dL_law__1362 : decode cL_law_ 1362 = .ok (.goto 945, 3) := by decide +kernel
theorem dL_law__1365 : decode cL_law_ 1365 = .ok (.aload_n 1, 1) := by decide +kernel
theorem dL_law__1366 : decode cL_law_ 1366 = .ok (.aload_n 0, 1) := by decide +kernel
theorem dL_law__1367 : decode cL_law_ 1367 = .ok (.iload 4, 2) := by decide +kernel
theorem dL_law__1369 : decode cL_law_ 1369 = .ok (.iconst 1, 1) := by decide +kernel
theorem dL_law__1370 : decode cL_law_ 1370 = .ok (.iadd, 1) := by decide +kernel
theorem dL_law__1371 : decode cL_law_ 1371 = .ok (.iaload, 1) := by decide +kernel
theorem dL_law__1372 : decode cL_law_ 1372 = .ok (.aload_n 3, 1) := by decide +kernel
theorem dL_law__1373 : decode cL_law_ 1373 = .ok (.invokestatic 180, 3) := by decide +kernel
theorem dL_law__1376 : decode cL_law_ 1376 = .ok (.istore 5, 2) := by decide +kernel
theorem dL_law__1378 : decode cL_law_ 1378 = .ok (.aload_n 2, 1) := by decide +kernel
theorem dL_law__1379 : decode cL_law_ 1379 = .ok (.aload_n 0, 1) := by decide +kernel
theorem dL_law__1380 : decode cL_law_ 1380 = .ok (.iload 4, 2) := by decide +kernel
theorem dL_law__1382 : decode cL_law_ 1382 = .ok (.iconst 1, 1) := by decide +kernel
theorem dL_law__1383 : decode cL_law_ 1383 = .ok (.iadd, 1) := by decide +kernel
theorem dL_law__1384 : decode cL_law_ 1384 = .ok (.iaload, 1) := by decide +kernel
theorem dL_law__1385 : decode cL_law_ 1385 = .ok (.invokevirtual 182, 3) := by decide +kernel
theorem dL_law__1388 : decode cL_law_ 1388 = .ok (.lstore 6, 2) := by decide +kernel
theorem dL_law__1390 : decode cL_law_ 1390 = .ok (.aload_n 2, 1) := by decide +kernel
theorem dL_law__1391 : decode cL_law_ 1391 = .ok (.invokevirtual 121, 3) := by decide +kernel
theorem dL_law__1394 : decode cL_law_ 1394 = .ok (.iload 5, 2) := by decide +kernel
theorem dL_law__1396 : decode cL_law_ 1396 = .ok (.if_icmp .eq 5, 3) := by decide +kernel
theorem dL_law__1399 : decode cL_law_ 1399 = .ok (.iconst 0, 1) := by decide +kernel
theorem dL_law__1400 : decode cL_law_ 1400 = .ok (.ireturn, 1) := by decide +kernel
theorem dL_law__1401 : decode cL_law_ 1401 = .ok (.iload 5, 2) := by decide +kernel
theorem dL_law__1403 : decode cL_law_ 1403 = .ok (.ifCond .ne 14, 3) := by decide +kernel
theorem dL_law__1406 : decode cL_law_ 1406 = .ok (.aload_n 3, 1) := by decide +kernel
theorem dL_law__1407 : decode cL_law_ 1407 = .ok (.iconst 0, 1) := by decide +kernel
theorem dL_law__1408 : decode cL_law_ 1408 = .ok (.laload, 1) := by decide +kernel
theorem dL_law__1409 : decode cL_law_ 1409 = .ok (.lload 6, 2) := by decide +kernel
theorem dL_law__1411 : decode cL_law_ 1411 = .ok (.lcmp, 1) := by decide +kernel
theorem dL_law__1412 : decode cL_law_ 1412 = .ok (.ifCond .eq 5, 3) := by decide +kernel
theorem dL_law__1415 : decode cL_law_ 1415 = .ok (.iconst 0, 1) := by decide +kernel
theorem dL_law__1416 : decode cL_law_ 1416 = .ok (.ireturn, 1) := by decide +kernel
theorem dL_law__1417 : decode cL_law_ 1417 = .ok (.goto 890, 3) := by decide +kernel
theorem dL_law__1420 : decode cL_law_ 1420 = .ok (.aload_n 1, 1) := by decide +kernel
theorem dL_law__1421 : decode cL_law_ 1421 = .ok (.aload_n 0, 1) := by decide +kernel
theorem dL_law__1422 : decode cL_law_ 1422 = .ok (.iload 4, 2) := by decide +kernel
theorem dL_law__1424 : decode cL_law_ 1424 = .ok (.iconst 1, 1) := by decide +kernel
theorem dL_law__1425 : decode cL_law_ 1425 = .ok (.iadd, 1) := by decide +kernel
theorem dL_law__1426 : decode cL_law_ 1426 = .ok (.iaload, 1) := by decide +kernel
theorem dL_law__1427 : decode cL_law_ 1427 = .ok (.aload_n 3, 1) := by decide +kernel
theorem dL_law__1428 : decode cL_law_ 1428 = .ok (.invokestatic 183, 3) := by decide +kernel
theorem dL_law__1431 : decode cL_law_ 1431 = .ok (.istore 5, 2) := by decide +kernel
theorem dL_law__1433 : decode cL_law_ 1433 = .ok (.aload_n 2, 1) := by decide +kernel
theorem dL_law__1434 : decode cL_law_ 1434 = .ok (.aload_n 0, 1) := by decide +kernel
theorem dL_law__1435 : decode cL_law_ 1435 = .ok (.iload 4, 2) := by decide +kernel
theorem dL_law__1437 : decode cL_law_ 1437 = .ok (.iconst 1, 1) := by decide +kernel
theorem dL_law__1438 : decode cL_law_ 1438 = .ok (.iadd, 1) := by decide +kernel
theorem dL_law__1439 : decode cL_law_ 1439 = .ok (.iaload, 1) := by decide +kernel
theorem dL_law__1440 : decode cL_law_ 1440 = .ok (.invokevirtual 185, 3) := by decide +kernel
theorem dL_law__1443 : decode cL_law_ 1443 = .ok (.istore 6, 2) := by decide +kernel
theorem dL_law__1445 : decode cL_law_ 1445 = .ok (.aload_n 2, 1) := by decide +kernel
theorem dL_law__1446 : decode cL_law_ 1446 = .ok (.invokevirtual 121, 3) := by decide +kernel
theorem dL_law__1449 : decode cL_law_ 1449 = .ok (.iload 5, 2) := by decide +kernel
theorem dL_law__1451 : decode cL_law_ 1451 = .ok (.if_icmp .eq 5, 3) := by decide +kernel
theorem dL_law__1454 : decode cL_law_ 1454 = .ok (.iconst 0, 1) := by decide +kernel
theorem dL_law__1455 : decode cL_law_ 1455 = .ok (.ireturn, 1) := by decide +kernel
theorem dL_law__1456 : decode cL_law_ 1456 = .ok (.iload 5, 2) := by decide +kernel
theorem dL_law__1458 : decode cL_law_ 1458 = .ok (.ifCond .ne 15, 3) := by decide +kernel
theorem dL_law__1461 : decode cL_law_ 1461 = .ok (.aload_n 3, 1) := by decide +kernel
theorem dL_law__1462 : decode cL_law_ 1462 = .ok (.iconst 0, 1) := by decide +kernel
theorem dL_law__1463 : decode cL_law_ 1463 = .ok (.laload, 1) := by decide +kernel
theorem dL_law__1464 : decode cL_law_ 1464 = .ok (.iload 6, 2) := by decide +kernel
theorem dL_law__1466 : decode cL_law_ 1466 = .ok (.i2l, 1) := by decide +kernel
theorem dL_law__1467 : decode cL_law_ 1467 = .ok (.lcmp, 1) := by decide +kernel
theorem dL_law__1468 : decode cL_law_ 1468 = .ok (.ifCond .eq 5, 3) := by decide +kernel
theorem dL_law__1471 : decode cL_law_ 1471 = .ok (.iconst 0, 1) := by decide +kernel
theorem dL_law__1472 : decode cL_law_ 1472 = .ok (.ireturn, 1) := by decide +kernel
theorem dL_law__1473 : decode cL_law_ 1473 = .ok (.goto 834, 3) := by decide +kernel
theorem dL_law__1476 : decode cL_law_ 1476 = .ok (.aload_n 1, 1) := by decide +kernel
theorem dL_law__1477 : decode cL_law_ 1477 = .ok (.aload_n 0, 1) := by decide +kernel
theorem dL_law__1478 : decode cL_law_ 1478 = .ok (.iload 4, 2) := by decide +kernel
theorem dL_law__1480 : decode cL_law_ 1480 = .ok (.iconst 1, 1) := by decide +kernel
theorem dL_law__1481 : decode cL_law_ 1481 = .ok (.iadd, 1) := by decide +kernel
theorem dL_law__1482 : decode cL_law_ 1482 = .ok (.iaload, 1) := by decide +kernel
theorem dL_law__1483 : decode cL_law_ 1483 = .ok (.aload_n 3, 1) := by decide +kernel
theorem dL_law__1484 : decode cL_law_ 1484 = .ok (.invokestatic 186, 3) := by decide +kernel
theorem dL_law__1487 : decode cL_law_ 1487 = .ok (.istore 5, 2) := by decide +kernel
theorem dL_law__1489 : decode cL_law_ 1489 = .ok (.aload_n 2, 1) := by decide +kernel
theorem dL_law__1490 : decode cL_law_ 1490 = .ok (.aload_n 0, 1) := by decide +kernel
theorem dL_law__1491 : decode cL_law_ 1491 = .ok (.iload 4, 2) := by decide +kernel
theorem dL_law__1493 : decode cL_law_ 1493 = .ok (.iconst 1, 1) := by decide +kernel
theorem dL_law__1494 : decode cL_law_ 1494 = .ok (.iadd, 1) := by decide +kernel
theorem dL_law__1495 : decode cL_law_ 1495 = .ok (.iaload, 1) := by decide +kernel
theorem dL_law__1496 : decode cL_law_ 1496 = .ok (.invokevirtual 188, 3) := by decide +kernel
theorem dL_law__1499 : decode cL_law_ 1499 = .ok (.istore 6, 2) := by decide +kernel
theorem dL_law__1501 : decode cL_law_ 1501 = .ok (.aload_n 2, 1) := by decide +kernel
theorem dL_law__1502 : decode cL_law_ 1502 = .ok (.invokevirtual 121, 3) := by decide +kernel
theorem dL_law__1505 : decode cL_law_ 1505 = .ok (.iload 5, 2) := by decide +kernel
theorem dL_law__1507 : decode cL_law_ 1507 = .ok (.if_icmp .eq 5, 3) := by decide +kernel
theorem dL_law__1510 : decode cL_law_ 1510 = .ok (.iconst 0, 1) := by decide +kernel
theorem dL_law__1511 : decode cL_law_ 1511 = .ok (.ireturn, 1) := by decide +kernel
theorem dL_law__1512 : decode cL_law_ 1512 = .ok (.iload 5, 2) := by decide +kernel
theorem dL_law__1514 : decode cL_law_ 1514 = .ok (.ifCond .ne 15, 3) := by decide +kernel
theorem dL_law__1517 : decode cL_law_ 1517 = .ok (.aload_n 3, 1) := by decide +kernel
theorem dL_law__1518 : decode cL_law_ 1518 = .ok (.iconst 0, 1) := by decide +kernel
theorem dL_law__1519 : decode cL_law_ 1519 = .ok (.laload, 1) := by decide +kernel
theorem dL_law__1520 : decode cL_law_ 1520 = .ok (.iload 6, 2) := by decide +kernel
theorem dL_law__1522 : decode cL_law_ 1522 = .ok (.i2l, 1) := by decide +kernel
theorem dL_law__1523 : decode cL_law_ 1523 = .ok (.lcmp, 1) := by decide +kernel
theorem dL_law__1524 : decode cL_law_ 1524 = .ok (.ifCond .eq 5, 3) := by decide +kernel
theorem dL_law__1527 : decode cL_law_ 1527 = .ok (.iconst 0, 1) := by decide +kernel
theorem dL_law__1528 : decode cL_law_ 1528 = .ok (.ireturn, 1) := by decide +kernel
theorem dL_law__1529 : decode cL_law_ 1529 = .ok (.goto 778, 3) := by decide +kernel
theorem dL_law__1532 : decode cL_law_ 1532 = .ok (.aload_n 1, 1) := by decide +kernel
theorem dL_law__1533 : decode cL_law_ 1533 = .ok (.aload_n 0, 1) := by decide +kernel
theorem dL_law__1534 : decode cL_law_ 1534 = .ok (.iload 4, 2) := by decide +kernel
theorem dL_law__1536 : decode cL_law_ 1536 = .ok (.iconst 1, 1) := by decide +kernel
theorem dL_law__1537 : decode cL_law_ 1537 = .ok (.iadd, 1) := by decide +kernel
theorem dL_law__1538 : decode cL_law_ 1538 = .ok (.iaload, 1) := by decide +kernel
theorem dL_law__1539 : decode cL_law_ 1539 = .ok (.aload_n 0, 1) := by decide +kernel
theorem dL_law__1540 : decode cL_law_ 1540 = .ok (.iload 4, 2) := by decide +kernel
theorem dL_law__1542 : decode cL_law_ 1542 = .ok (.iconst 2, 1) := by decide +kernel
theorem dL_law__1543 : decode cL_law_ 1543 = .ok (.iadd, 1) := by decide +kernel
theorem dL_law__1544 : decode cL_law_ 1544 = .ok (.iaload, 1) := by decide +kernel
theorem dL_law__1545 : decode cL_law_ 1545 = .ok (.aload_n 3, 1) := by decide +kernel
theorem dL_law__1546 : decode cL_law_ 1546 = .ok (.invokestatic 189, 3) := by decide +kernel
theorem dL_law__1549 : decode cL_law_ 1549 = .ok (.istore 5, 2) := by decide +kernel
theorem dL_law__1551 : decode cL_law_ 1551 = .ok (.aload_n 2, 1) := by decide +kernel
theorem dL_law__1552 : decode cL_law_ 1552 = .ok (.aload_n 0, 1) := by decide +kernel
theorem dL_law__1553 : decode cL_law_ 1553 = .ok (.iload 4, 2) := by decide +kernel
theorem dL_law__1555 : decode cL_law_ 1555 = .ok (.iconst 1, 1) := by decide +kernel
theorem dL_law__1556 : decode cL_law_ 1556 = .ok (.iadd, 1) := by decide +kernel
theorem dL_law__1557 : decode cL_law_ 1557 = .ok (.iaload, 1) := by decide +kernel
theorem dL_law__1558 : decode cL_law_ 1558 = .ok (.aload_n 0, 1) := by decide +kernel
theorem dL_law__1559 : decode cL_law_ 1559 = .ok (.iload 4, 2) := by decide +kernel
theorem dL_law__1561 : decode cL_law_ 1561 = .ok (.iconst 2, 1) := by decide +kernel
theorem dL_law__1562 : decode cL_law_ 1562 = .ok (.iadd, 1) := by decide +kernel
theorem dL_law__1563 : decode cL_law_ 1563 = .ok (.iaload, 1) := by decide +kernel
theorem dL_law__1564 : decode cL_law_ 1564 = .ok (.invokevirtual 191, 3) := by decide +kernel
theorem dL_law__1567 : decode cL_law_ 1567 = .ok (.istore 6, 2) := by decide +kernel
theorem dL_law__1569 : decode cL_law_ 1569 = .ok (.aload_n 2, 1) := by decide +kernel
theorem dL_law__1570 : decode cL_law_ 1570 = .ok (.invokevirtual 121, 3) := by decide +kernel
theorem dL_law__1573 : decode cL_law_ 1573 = .ok (.iload 5, 2) := by decide +kernel
theorem dL_law__1575 : decode cL_law_ 1575 = .ok (.if_icmp .eq 5, 3) := by decide +kernel
theorem dL_law__1578 : decode cL_law_ 1578 = .ok (.iconst 0, 1) := by decide +kernel
theorem dL_law__1579 : decode cL_law_ 1579 = .ok (.ireturn, 1) := by decide +kernel
theorem dL_law__1580 : decode cL_law_ 1580 = .ok (.iload 5, 2) := by decide +kernel
theorem dL_law__1582 : decode cL_law_ 1582 = .ok (.ifCond .ne 15, 3) := by decide +kernel
theorem dL_law__1585 : decode cL_law_ 1585 = .ok (.aload_n 3, 1) := by decide +kernel
theorem dL_law__1586 : decode cL_law_ 1586 = .ok (.iconst 0, 1) := by decide +kernel
theorem dL_law__1587 : decode cL_law_ 1587 = .ok (.laload, 1) := by decide +kernel
theorem dL_law__1588 : decode cL_law_ 1588 = .ok (.iload 6, 2) := by decide +kernel
theorem dL_law__1590 : decode cL_law_ 1590 = .ok (.i2l, 1) := by decide +kernel
theorem dL_law__1591 : decode cL_law_ 1591 = .ok (.lcmp, 1) := by decide +kernel
theorem dL_law__1592 : decode cL_law_ 1592 = .ok (.ifCond .eq 5, 3) := by decide +kernel
theorem dL_law__1595 : decode cL_law_ 1595 = .ok (.iconst 0, 1) := by decide +kernel
theorem dL_law__1596 : decode cL_law_ 1596 = .ok (.ireturn, 1) := by decide +kernel
theorem dL_law__1597 : decode cL_law_ 1597 = .ok (.goto 710, 3) := by decide +kernel
theorem dL_law__1600 : decode cL_law_ 1600 = .ok (.aload_n 1, 1) := by decide +kernel
theorem dL_law__1601 : decode cL_law_ 1601 = .ok (.invokevirtual 192, 3) := by decide +kernel
theorem dL_law__1604 : decode cL_law_ 1604 = .ok (.aload_n 2, 1) := by decide +kernel
theorem dL_law__1605 : decode cL_law_ 1605 = .ok (.invokevirtual 195, 3) := by decide +kernel
theorem dL_law__1608 : decode cL_law_ 1608 = .ok (.if_icmp .eq 699, 3) := by decide +kernel
theorem dL_law__1611 : decode cL_law_ 1611 = .ok (.iconst 0, 1) := by decide +kernel
theorem dL_law__1612 : decode cL_law_ 1612 = .ok (.ireturn, 1) := by decide +kernel
theorem dL_law__1613 : decode cL_law_ 1613 = .ok (.aload_n 1, 1) := by decide +kernel
theorem dL_law__1614 : decode cL_law_ 1614 = .ok (.aload_n 0, 1) := by decide +kernel
theorem dL_law__1615 : decode cL_law_ 1615 = .ok (.iload 4, 2) := by decide +kernel
theorem dL_law__1617 : decode cL_law_ 1617 = .ok (.iconst 1, 1) := by decide +kernel
theorem dL_law__1618 : decode cL_law_ 1618 = .ok (.iadd, 1) := by decide +kernel
theorem dL_law__1619 : decode cL_law_ 1619 = .ok (.iaload, 1) := by decide +kernel
theorem dL_law__1620 : decode cL_law_ 1620 = .ok (.aload_n 3, 1) := by decide +kernel
theorem dL_law__1621 : decode cL_law_ 1621 = .ok (.invokestatic 196, 3) := by decide +kernel
theorem dL_law__1624 : decode cL_law_ 1624 = .ok (.istore 5, 2) := by decide +kernel
theorem dL_law__1626 : decode cL_law_ 1626 = .ok (.aload_n 2, 1) := by decide +kernel
theorem dL_law__1627 : decode cL_law_ 1627 = .ok (.aload_n 0, 1) := by decide +kernel
theorem dL_law__1628 : decode cL_law_ 1628 = .ok (.iload 4, 2) := by decide +kernel
theorem dL_law__1630 : decode cL_law_ 1630 = .ok (.iconst 1, 1) := by decide +kernel
theorem dL_law__1631 : decode cL_law_ 1631 = .ok (.iadd, 1) := by decide +kernel
theorem dL_law__1632 : decode cL_law_ 1632 = .ok (.iaload, 1) := by decide +kernel
theorem dL_law__1633 : decode cL_law_ 1633 = .ok (.invokevirtual 198, 3) := by decide +kernel
theorem dL_law__1636 : decode cL_law_ 1636 = .ok (.istore 6, 2) := by decide +kernel
theorem dL_law__1638 : decode cL_law_ 1638 = .ok (.aload_n 2, 1) := by decide +kernel
theorem dL_law__1639 : decode cL_law_ 1639 = .ok (.invokevirtual 121, 3) := by decide +kernel
theorem dL_law__1642 : decode cL_law_ 1642 = .ok (.iload 5, 2) := by decide +kernel
theorem dL_law__1644 : decode cL_law_ 1644 = .ok (.if_icmp .eq 5, 3) := by decide +kernel
theorem dL_law__1647 : decode cL_law_ 1647 = .ok (.iconst 0, 1) := by decide +kernel
theorem dL_law__1648 : decode cL_law_ 1648 = .ok (.ireturn, 1) := by decide +kernel
theorem dL_law__1649 : decode cL_law_ 1649 = .ok (.iload 5, 2) := by decide +kernel
theorem dL_law__1651 : decode cL_law_ 1651 = .ok (.ifCond .ne 15, 3) := by decide +kernel
theorem dL_law__1654 : decode cL_law_ 1654 = .ok (.aload_n 3, 1) := by decide +kernel
theorem dL_law__1655 : decode cL_law_ 1655 = .ok (.iconst 0, 1) := by decide +kernel
theorem dL_law__1656 : decode cL_law_ 1656 = .ok (.laload, 1) := by decide +kernel
theorem dL_law__1657 : decode cL_law_ 1657 = .ok (.iload 6, 2) := by decide +kernel
theorem dL_law__1659 : decode cL_law_ 1659 = .ok (.i2l, 1) := by decide +kernel
theorem dL_law__1660 : decode cL_law_ 1660 = .ok (.lcmp, 1) := by decide +kernel
theorem dL_law__1661 : decode cL_law_ 1661 = .ok (.ifCond .eq 5, 3) := by decide +kernel
theorem dL_law__1664 : decode cL_law_ 1664 = .ok (.iconst 0, 1) := by decide +kernel
theorem dL_law__1665 : decode cL_law_ 1665 = .ok (.ireturn, 1) := by decide +kernel
theorem dL_law__1666 : decode cL_law_ 1666 = .ok (.goto 641, 3) := by decide +kernel
theorem dL_law__1669 : decode cL_law_ 1669 = .ok (.aload_n 1, 1) := by decide +kernel
theorem dL_law__1670 : decode cL_law_ 1670 = .ok (.aload_n 0, 1) := by decide +kernel
theorem dL_law__1671 : decode cL_law_ 1671 = .ok (.iload 4, 2) := by decide +kernel
theorem dL_law__1673 : decode cL_law_ 1673 = .ok (.iconst 1, 1) := by decide +kernel
theorem dL_law__1674 : decode cL_law_ 1674 = .ok (.iadd, 1) := by decide +kernel
theorem dL_law__1675 : decode cL_law_ 1675 = .ok (.iaload, 1) := by decide +kernel
theorem dL_law__1676 : decode cL_law_ 1676 = .ok (.aload_n 0, 1) := by decide +kernel
theorem dL_law__1677 : decode cL_law_ 1677 = .ok (.iload 4, 2) := by decide +kernel
theorem dL_law__1679 : decode cL_law_ 1679 = .ok (.iconst 2, 1) := by decide +kernel
theorem dL_law__1680 : decode cL_law_ 1680 = .ok (.iadd, 1) := by decide +kernel
theorem dL_law__1681 : decode cL_law_ 1681 = .ok (.iaload, 1) := by decide +kernel
theorem dL_law__1682 : decode cL_law_ 1682 = .ok (.aload_n 0, 1) := by decide +kernel
theorem dL_law__1683 : decode cL_law_ 1683 = .ok (.iload 4, 2) := by decide +kernel
theorem dL_law__1685 : decode cL_law_ 1685 = .ok (.iconst 3, 1) := by decide +kernel
theorem dL_law__1686 : decode cL_law_ 1686 = .ok (.iadd, 1) := by decide +kernel
theorem dL_law__1687 : decode cL_law_ 1687 = .ok (.iaload, 1) := by decide +kernel
theorem dL_law__1688 : decode cL_law_ 1688 = .ok (.aload_n 3, 1) := by decide +kernel
theorem dL_law__1689 : decode cL_law_ 1689 = .ok (.invokestatic 199, 3) := by decide +kernel
theorem dL_law__1692 : decode cL_law_ 1692 = .ok (.istore 5, 2) := by decide +kernel
theorem dL_law__1694 : decode cL_law_ 1694 = .ok (.aload_n 2, 1) := by decide +kernel
theorem dL_law__1695 : decode cL_law_ 1695 = .ok (.aload_n 0, 1) := by decide +kernel
theorem dL_law__1696 : decode cL_law_ 1696 = .ok (.iload 4, 2) := by decide +kernel
theorem dL_law__1698 : decode cL_law_ 1698 = .ok (.iconst 1, 1) := by decide +kernel
theorem dL_law__1699 : decode cL_law_ 1699 = .ok (.iadd, 1) := by decide +kernel
theorem dL_law__1700 : decode cL_law_ 1700 = .ok (.iaload, 1) := by decide +kernel
theorem dL_law__1701 : decode cL_law_ 1701 = .ok (.aload_n 0, 1) := by decide +kernel
theorem dL_law__1702 : decode cL_law_ 1702 = .ok (.iload 4, 2) := by decide +kernel
theorem dL_law__1704 : decode cL_law_ 1704 = .ok (.iconst 2, 1) := by decide +kernel
theorem dL_law__1705 : decode cL_law_ 1705 = .ok (.iadd, 1) := by decide +kernel
theorem dL_law__1706 : decode cL_law_ 1706 = .ok (.iaload, 1) := by decide +kernel
theorem dL_law__1707 : decode cL_law_ 1707 = .ok (.aload_n 0, 1) := by decide +kernel
theorem dL_law__1708 : decode cL_law_ 1708 = .ok (.iload 4, 2) := by decide +kernel
theorem dL_law__1710 : decode cL_law_ 1710 = .ok (.iconst 3, 1) := by decide +kernel
theorem dL_law__1711 : decode cL_law_ 1711 = .ok (.iadd, 1) := by decide +kernel
theorem dL_law__1712 : decode cL_law_ 1712 = .ok (.iaload, 1) := by decide +kernel
theorem dL_law__1713 : decode cL_law_ 1713 = .ok (.invokevirtual 201, 3) := by decide +kernel
theorem dL_law__1716 : decode cL_law_ 1716 = .ok (.istore 6, 2) := by decide +kernel
theorem dL_law__1718 : decode cL_law_ 1718 = .ok (.aload_n 2, 1) := by decide +kernel
theorem dL_law__1719 : decode cL_law_ 1719 = .ok (.invokevirtual 121, 3) := by decide +kernel
theorem dL_law__1722 : decode cL_law_ 1722 = .ok (.iload 5, 2) := by decide +kernel
theorem dL_law__1724 : decode cL_law_ 1724 = .ok (.if_icmp .eq 5, 3) := by decide +kernel
theorem dL_law__1727 : decode cL_law_ 1727 = .ok (.iconst 0, 1) := by decide +kernel
theorem dL_law__1728 : decode cL_law_ 1728 = .ok (.ireturn, 1) := by decide +kernel
theorem dL_law__1729 : decode cL_law_ 1729 = .ok (.iload 5, 2) := by decide +kernel
theorem dL_law__1731 : decode cL_law_ 1731 = .ok (.ifCond .ne 15, 3) := by decide +kernel
theorem dL_law__1734 : decode cL_law_ 1734 = .ok (.aload_n 3, 1) := by decide +kernel
theorem dL_law__1735 : decode cL_law_ 1735 = .ok (.iconst 0, 1) := by decide +kernel
theorem dL_law__1736 : decode cL_law_ 1736 = .ok (.laload, 1) := by decide +kernel
theorem dL_law__1737 : decode cL_law_ 1737 = .ok (.iload 6, 2) := by decide +kernel
theorem dL_law__1739 : decode cL_law_ 1739 = .ok (.i2l, 1) := by decide +kernel
theorem dL_law__1740 : decode cL_law_ 1740 = .ok (.lcmp, 1) := by decide +kernel
theorem dL_law__1741 : decode cL_law_ 1741 = .ok (.ifCond .eq 5, 3) := by decide +kernel
theorem dL_law__1744 : decode cL_law_ 1744 = .ok (.iconst 0, 1) := by decide +kernel
theorem dL_law__1745 : decode cL_law_ 1745 = .ok (.ireturn, 1) := by decide +kernel
theorem dL_law__1746 : decode cL_law_ 1746 = .ok (.goto 561, 3) := by decide +kernel
theorem dL_law__1749 : decode cL_law_ 1749 = .ok (.aload_n 1, 1) := by decide +kernel
theorem dL_law__1750 : decode cL_law_ 1750 = .ok (.aload_n 0, 1) := by decide +kernel
theorem dL_law__1751 : decode cL_law_ 1751 = .ok (.iload 4, 2) := by decide +kernel
theorem dL_law__1753 : decode cL_law_ 1753 = .ok (.iconst 1, 1) := by decide +kernel
theorem dL_law__1754 : decode cL_law_ 1754 = .ok (.iadd, 1) := by decide +kernel
theorem dL_law__1755 : decode cL_law_ 1755 = .ok (.iaload, 1) := by decide +kernel
theorem dL_law__1756 : decode cL_law_ 1756 = .ok (.aload_n 0, 1) := by decide +kernel
theorem dL_law__1757 : decode cL_law_ 1757 = .ok (.iload 4, 2) := by decide +kernel
theorem dL_law__1759 : decode cL_law_ 1759 = .ok (.iconst 2, 1) := by decide +kernel
theorem dL_law__1760 : decode cL_law_ 1760 = .ok (.iadd, 1) := by decide +kernel
theorem dL_law__1761 : decode cL_law_ 1761 = .ok (.iaload, 1) := by decide +kernel
theorem dL_law__1762 : decode cL_law_ 1762 = .ok (.aload_n 0, 1) := by decide +kernel
theorem dL_law__1763 : decode cL_law_ 1763 = .ok (.iload 4, 2) := by decide +kernel
theorem dL_law__1765 : decode cL_law_ 1765 = .ok (.iconst 3, 1) := by decide +kernel
theorem dL_law__1766 : decode cL_law_ 1766 = .ok (.iadd, 1) := by decide +kernel
theorem dL_law__1767 : decode cL_law_ 1767 = .ok (.iaload, 1) := by decide +kernel
theorem dL_law__1768 : decode cL_law_ 1768 = .ok (.aload_n 3, 1) := by decide +kernel
theorem dL_law__1769 : decode cL_law_ 1769 = .ok (.invokestatic 202, 3) := by decide +kernel
theorem dL_law__1772 : decode cL_law_ 1772 = .ok (.istore 5, 2) := by decide +kernel
theorem dL_law__1774 : decode cL_law_ 1774 = .ok (.aload_n 2, 1) := by decide +kernel
theorem dL_law__1775 : decode cL_law_ 1775 = .ok (.aload_n 0, 1) := by decide +kernel
theorem dL_law__1776 : decode cL_law_ 1776 = .ok (.iload 4, 2) := by decide +kernel
theorem dL_law__1778 : decode cL_law_ 1778 = .ok (.iconst 1, 1) := by decide +kernel
theorem dL_law__1779 : decode cL_law_ 1779 = .ok (.iadd, 1) := by decide +kernel
theorem dL_law__1780 : decode cL_law_ 1780 = .ok (.iaload, 1) := by decide +kernel
theorem dL_law__1781 : decode cL_law_ 1781 = .ok (.aload_n 0, 1) := by decide +kernel
theorem dL_law__1782 : decode cL_law_ 1782 = .ok (.iload 4, 2) := by decide +kernel
theorem dL_law__1784 : decode cL_law_ 1784 = .ok (.iconst 2, 1) := by decide +kernel
theorem dL_law__1785 : decode cL_law_ 1785 = .ok (.iadd, 1) := by decide +kernel
theorem dL_law__1786 : decode cL_law_ 1786 = .ok (.iaload, 1) := by decide +kernel
theorem dL_law__1787 : decode cL_law_ 1787 = .ok (.aload_n 0, 1) := by decide +kernel
theorem dL_law__1788 : decode cL_law_ 1788 = .ok (.iload 4, 2) := by decide +kernel
theorem dL_law__1790 : decode cL_law_ 1790 = .ok (.iconst 3, 1) := by decide +kernel
theorem dL_law__1791 : decode cL_law_ 1791 = .ok (.iadd, 1) := by decide +kernel
theorem dL_law__1792 : decode cL_law_ 1792 = .ok (.iaload, 1) := by decide +kernel
theorem dL_law__1793 : decode cL_law_ 1793 = .ok (.invokevirtual 204, 3) := by decide +kernel
theorem dL_law__1796 : decode cL_law_ 1796 = .ok (.istore 6, 2) := by decide +kernel
theorem dL_law__1798 : decode cL_law_ 1798 = .ok (.aload_n 2, 1) := by decide +kernel
theorem dL_law__1799 : decode cL_law_ 1799 = .ok (.invokevirtual 121, 3) := by decide +kernel
theorem dL_law__1802 : decode cL_law_ 1802 = .ok (.iload 5, 2) := by decide +kernel
theorem dL_law__1804 : decode cL_law_ 1804 = .ok (.if_icmp .eq 5, 3) := by decide +kernel
theorem dL_law__1807 : decode cL_law_ 1807 = .ok (.iconst 0, 1) := by decide +kernel
theorem dL_law__1808 : decode cL_law_ 1808 = .ok (.ireturn, 1) := by decide +kernel
theorem dL_law__1809 : decode cL_law_ 1809 = .ok (.iload 5, 2) := by decide +kernel
theorem dL_law__1811 : decode cL_law_ 1811 = .ok (.ifCond .ne 15, 3) := by decide +kernel
theorem dL_law__1814 : decode cL_law_ 1814 = .ok (.aload_n 3, 1) := by decide +kernel
theorem dL_law__1815 : decode cL_law_ 1815 = .ok (.iconst 0, 1) := by decide +kernel
theorem dL_law__1816 : decode cL_law_ 1816 = .ok (.laload, 1) := by decide +kernel
theorem dL_law__1817 : decode cL_law_ 1817 = .ok (.iload 6, 2) := by decide +kernel
theorem dL_law__1819 : decode cL_law_ 1819 = .ok (.i2l, 1) := by decide +kernel
theorem dL_law__1820 : decode cL_law_ 1820 = .ok (.lcmp, 1) := by decide +kernel
theorem dL_law__1821 : decode cL_law_ 1821 = .ok (.ifCond .eq 5, 3) := by decide +kernel
theorem dL_law__1824 : decode cL_law_ 1824 = .ok (.iconst 0, 1) := by decide +kernel
theorem dL_law__1825 : decode cL_law_ 1825 = .ok (.ireturn, 1) := by decide +kernel
theorem dL_law__1826 : decode cL_law_ 1826 = .ok (.goto 481, 3) := by decide +kernel
theorem dL_law__1829 : decode cL_law_ 1829 = .ok (.aload_n 1, 1) := by decide +kernel
theorem dL_law__1830 : decode cL_law_ 1830 = .ok (.aload_n 0, 1) := by decide +kernel
theorem dL_law__1831 : decode cL_law_ 1831 = .ok (.iload 4, 2) := by decide +kernel
theorem dL_law__1833 : decode cL_law_ 1833 = .ok (.iconst 1, 1) := by decide +kernel
theorem dL_law__1834 : decode cL_law_ 1834 = .ok (.iadd, 1) := by decide +kernel
theorem dL_law__1835 : decode cL_law_ 1835 = .ok (.iaload, 1) := by decide +kernel
theorem dL_law__1836 : decode cL_law_ 1836 = .ok (.aload_n 0, 1) := by decide +kernel
theorem dL_law__1837 : decode cL_law_ 1837 = .ok (.iload 4, 2) := by decide +kernel
theorem dL_law__1839 : decode cL_law_ 1839 = .ok (.iconst 2, 1) := by decide +kernel
theorem dL_law__1840 : decode cL_law_ 1840 = .ok (.iadd, 1) := by decide +kernel
theorem dL_law__1841 : decode cL_law_ 1841 = .ok (.iaload, 1) := by decide +kernel
theorem dL_law__1842 : decode cL_law_ 1842 = .ok (.aload_n 3, 1) := by decide +kernel
theorem dL_law__1843 : decode cL_law_ 1843 = .ok (.invokestatic 205, 3) := by decide +kernel
theorem dL_law__1846 : decode cL_law_ 1846 = .ok (.istore 5, 2) := by decide +kernel
theorem dL_law__1848 : decode cL_law_ 1848 = .ok (.aload_n 2, 1) := by decide +kernel
theorem dL_law__1849 : decode cL_law_ 1849 = .ok (.aload_n 0, 1) := by decide +kernel
theorem dL_law__1850 : decode cL_law_ 1850 = .ok (.iload 4, 2) := by decide +kernel
theorem dL_law__1852 : decode cL_law_ 1852 = .ok (.iconst 1, 1) := by decide +kernel
theorem dL_law__1853 : decode cL_law_ 1853 = .ok (.iadd, 1) := by decide +kernel
theorem dL_law__1854 : decode cL_law_ 1854 = .ok (.iaload, 1) := by decide +kernel
theorem dL_law__1855 : decode cL_law_ 1855 = .ok (.aload_n 0, 1) := by decide +kernel
theorem dL_law__1856 : decode cL_law_ 1856 = .ok (.iload 4, 2) := by decide +kernel
theorem dL_law__1858 : decode cL_law_ 1858 = .ok (.iconst 2, 1) := by decide +kernel
theorem dL_law__1859 : decode cL_law_ 1859 = .ok (.iadd, 1) := by decide +kernel
theorem dL_law__1860 : decode cL_law_ 1860 = .ok (.iaload, 1) := by decide +kernel
theorem dL_law__1861 : decode cL_law_ 1861 = .ok (.invokevirtual 207, 3) := by decide +kernel
theorem dL_law__1864 : decode cL_law_ 1864 = .ok (.istore 6, 2) := by decide +kernel
theorem dL_law__1866 : decode cL_law_ 1866 = .ok (.aload_n 2, 1) := by decide +kernel
theorem dL_law__1867 : decode cL_law_ 1867 = .ok (.invokevirtual 121, 3) := by decide +kernel
theorem dL_law__1870 : decode cL_law_ 1870 = .ok (.iload 5, 2) := by decide +kernel
theorem dL_law__1872 : decode cL_law_ 1872 = .ok (.if_icmp .eq 5, 3) := by decide +kernel
theorem dL_law__1875 : decode cL_law_ 1875 = .ok (.iconst 0, 1) := by decide +kernel
theorem dL_law__1876 : decode cL_law_ 1876 = .ok (.ireturn, 1) := by decide +kernel
theorem dL_law__1877 : decode cL_law_ 1877 = .ok (.iload 5, 2) := by decide +kernel
theorem dL_law__1879 : decode cL_law_ 1879 = .ok (.ifCond .ne 15, 3) := by decide +kernel
theorem dL_law__1882 : decode cL_law_ 1882 = .ok (.aload_n 3, 1) := by decide +kernel
theorem dL_law__1883 : decode cL_law_ 1883 = .ok (.iconst 0, 1) := by decide +kernel
theorem dL_law__1884 : decode cL_law_ 1884 = .ok (.laload, 1) := by decide +kernel
theorem dL_law__1885 : decode cL_law_ 1885 = .ok (.iload 6, 2) := by decide +kernel
theorem dL_law__1887 : decode cL_law_ 1887 = .ok (.i2l, 1) := by decide +kernel
theorem dL_law__1888 : decode cL_law_ 1888 = .ok (.lcmp, 1) := by decide +kernel
theorem dL_law__1889 : decode cL_law_ 1889 = .ok (.ifCond .eq 5, 3) := by decide +kernel
theorem dL_law__1892 : decode cL_law_ 1892 = .ok (.iconst 0, 1) := by decide +kernel
theorem dL_law__1893 : decode cL_law_ 1893 = .ok (.ireturn, 1) := by decide +kernel
theorem dL_law__1894 : decode cL_law_ 1894 = .ok (.goto 413, 3) := by decide +kernel
theorem dL_law__1897 : decode cL_law_ 1897 = .ok (.aload_n 1, 1) := by decide +kernel
theorem dL_law__1898 : decode cL_law_ 1898 = .ok (.invokevirtual 208, 3) := by decide +kernel
theorem dL_law__1901 : decode cL_law_ 1901 = .ok (.aload_n 2, 1) := by decide +kernel
theorem dL_law__1902 : decode cL_law_ 1902 = .ok (.invokevirtual 211, 3) := by decide +kernel
theorem dL_law__1905 : decode cL_law_ 1905 = .ok (.if_icmp .eq 402, 3) := by decide +kernel
theorem dL_law__1908 : decode cL_law_ 1908 = .ok (.iconst 0, 1) := by decide +kernel
theorem dL_law__1909 : decode cL_law_ 1909 = .ok (.ireturn, 1) := by decide +kernel
theorem dL_law__1910 : decode cL_law_ 1910 = .ok (.aload_n 1, 1) := by decide +kernel
theorem dL_law__1911 : decode cL_law_ 1911 = .ok (.invokevirtual 212, 3) := by decide +kernel
theorem dL_law__1914 : decode cL_law_ 1914 = .ok (.aload_n 2, 1) := by decide +kernel
theorem dL_law__1915 : decode cL_law_ 1915 = .ok (.invokevirtual 215, 3) := by decide +kernel
theorem dL_law__1918 : decode cL_law_ 1918 = .ok (.if_icmp .eq 389, 3) := by decide +kernel
theorem dL_law__1921 : decode cL_law_ 1921 = .ok (.iconst 0, 1) := by decide +kernel
theorem dL_law__1922 : decode cL_law_ 1922 = .ok (.ireturn, 1) := by decide +kernel
theorem dL_law__1923 : decode cL_law_ 1923 = .ok (.aload_n 1, 1) := by decide +kernel
theorem dL_law__1924 : decode cL_law_ 1924 = .ok (.aload_n 0, 1) := by decide +kernel
theorem dL_law__1925 : decode cL_law_ 1925 = .ok (.iload 4, 2) := by decide +kernel
theorem dL_law__1927 : decode cL_law_ 1927 = .ok (.iconst 1, 1) := by decide +kernel
theorem dL_law__1928 : decode cL_law_ 1928 = .ok (.iadd, 1) := by decide +kernel
theorem dL_law__1929 : decode cL_law_ 1929 = .ok (.iaload, 1) := by decide +kernel
theorem dL_law__1930 : decode cL_law_ 1930 = .ok (.aload_n 0, 1) := by decide +kernel
theorem dL_law__1931 : decode cL_law_ 1931 = .ok (.iload 4, 2) := by decide +kernel
theorem dL_law__1933 : decode cL_law_ 1933 = .ok (.iconst 2, 1) := by decide +kernel
theorem dL_law__1934 : decode cL_law_ 1934 = .ok (.iadd, 1) := by decide +kernel
theorem dL_law__1935 : decode cL_law_ 1935 = .ok (.iaload, 1) := by decide +kernel
theorem dL_law__1936 : decode cL_law_ 1936 = .ok (.aload_n 0, 1) := by decide +kernel
theorem dL_law__1937 : decode cL_law_ 1937 = .ok (.iload 4, 2) := by decide +kernel
theorem dL_law__1939 : decode cL_law_ 1939 = .ok (.iconst 3, 1) := by decide +kernel
theorem dL_law__1940 : decode cL_law_ 1940 = .ok (.iadd, 1) := by decide +kernel
theorem dL_law__1941 : decode cL_law_ 1941 = .ok (.iaload, 1) := by decide +kernel
theorem dL_law__1942 : decode cL_law_ 1942 = .ok (.aload_n 0, 1) := by decide +kernel
theorem dL_law__1943 : decode cL_law_ 1943 = .ok (.iload 4, 2) := by decide +kernel
theorem dL_law__1945 : decode cL_law_ 1945 = .ok (.iconst 4, 1) := by decide +kernel
theorem dL_law__1946 : decode cL_law_ 1946 = .ok (.iadd, 1) := by decide +kernel
theorem dL_law__1947 : decode cL_law_ 1947 = .ok (.iaload, 1) := by decide +kernel
theorem dL_law__1948 : decode cL_law_ 1948 = .ok (.aload_n 3, 1) := by decide +kernel
theorem dL_law__1949 : decode cL_law_ 1949 = .ok (.invokestatic 216, 3) := by decide +kernel
theorem dL_law__1952 : decode cL_law_ 1952 = .ok (.istore 5, 2) := by decide +kernel
theorem dL_law__1954 : decode cL_law_ 1954 = .ok (.aload_n 2, 1) := by decide +kernel
theorem dL_law__1955 : decode cL_law_ 1955 = .ok (.aload_n 0, 1) := by decide +kernel
theorem dL_law__1956 : decode cL_law_ 1956 = .ok (.iload 4, 2) := by decide +kernel
theorem dL_law__1958 : decode cL_law_ 1958 = .ok (.iconst 1, 1) := by decide +kernel
theorem dL_law__1959 : decode cL_law_ 1959 = .ok (.iadd, 1) := by decide +kernel
theorem dL_law__1960 : decode cL_law_ 1960 = .ok (.iaload, 1) := by decide +kernel
theorem dL_law__1961 : decode cL_law_ 1961 = .ok (.aload_n 0, 1) := by decide +kernel
theorem dL_law__1962 : decode cL_law_ 1962 = .ok (.iload 4, 2) := by decide +kernel
theorem dL_law__1964 : decode cL_law_ 1964 = .ok (.iconst 2, 1) := by decide +kernel
theorem dL_law__1965 : decode cL_law_ 1965 = .ok (.iadd, 1) := by decide +kernel
theorem dL_law__1966 : decode cL_law_ 1966 = .ok (.iaload, 1) := by decide +kernel
theorem dL_law__1967 : decode cL_law_ 1967 = .ok (.aload_n 0, 1) := by decide +kernel
theorem dL_law__1968 : decode cL_law_ 1968 = .ok (.iload 4, 2) := by decide +kernel
theorem dL_law__1970 : decode cL_law_ 1970 = .ok (.iconst 3, 1) := by decide +kernel
theorem dL_law__1971 : decode cL_law_ 1971 = .ok (.iadd, 1) := by decide +kernel
theorem dL_law__1972 : decode cL_law_ 1972 = .ok (.iaload, 1) := by decide +kernel
theorem dL_law__1973 : decode cL_law_ 1973 = .ok (.aload_n 0, 1) := by decide +kernel
theorem dL_law__1974 : decode cL_law_ 1974 = .ok (.iload 4, 2) := by decide +kernel
theorem dL_law__1976 : decode cL_law_ 1976 = .ok (.iconst 4, 1) := by decide +kernel
theorem dL_law__1977 : decode cL_law_ 1977 = .ok (.iadd, 1) := by decide +kernel
theorem dL_law__1978 : decode cL_law_ 1978 = .ok (.iaload, 1) := by decide +kernel
theorem dL_law__1979 : decode cL_law_ 1979 = .ok (.invokevirtual 219, 3) := by decide +kernel
theorem dL_law__1982 : decode cL_law_ 1982 = .ok (.istore 6, 2) := by decide +kernel
theorem dL_law__1984 : decode cL_law_ 1984 = .ok (.aload_n 2, 1) := by decide +kernel
theorem dL_law__1985 : decode cL_law_ 1985 = .ok (.invokevirtual 121, 3) := by decide +kernel
theorem dL_law__1988 : decode cL_law_ 1988 = .ok (.iload 5, 2) := by decide +kernel
theorem dL_law__1990 : decode cL_law_ 1990 = .ok (.if_icmp .eq 5, 3) := by decide +kernel
theorem dL_law__1993 : decode cL_law_ 1993 = .ok (.iconst 0, 1) := by decide +kernel
theorem dL_law__1994 : decode cL_law_ 1994 = .ok (.ireturn, 1) := by decide +kernel
theorem dL_law__1995 : decode cL_law_ 1995 = .ok (.iload 5, 2) := by decide +kernel
theorem dL_law__1997 : decode cL_law_ 1997 = .ok (.ifCond .ne 15, 3) := by decide +kernel
theorem dL_law__2000 : decode cL_law_ 2000 = .ok (.aload_n 3, 1) := by decide +kernel
theorem dL_law__2001 : decode cL_law_ 2001 = .ok (.iconst 0, 1) := by decide +kernel
theorem dL_law__2002 : decode cL_law_ 2002 = .ok (.laload, 1) := by decide +kernel
theorem dL_law__2003 : decode cL_law_ 2003 = .ok (.iload 6, 2) := by decide +kernel
theorem dL_law__2005 : decode cL_law_ 2005 = .ok (.i2l, 1) := by decide +kernel
theorem dL_law__2006 : decode cL_law_ 2006 = .ok (.lcmp, 1) := by decide +kernel
theorem dL_law__2007 : decode cL_law_ 2007 = .ok (.ifCond .eq 5, 3) := by decide +kernel
theorem dL_law__2010 : decode cL_law_ 2010 = .ok (.iconst 0, 1) := by decide +kernel
theorem dL_law__2011 : decode cL_law_ 2011 = .ok (.ireturn, 1) := by decide +kernel
theorem dL_law__2012 : decode cL_law_ 2012 = .ok (.goto 295, 3) := by decide +kernel
theorem dL_law__2015 : decode cL_law_ 2015 = .ok (.aload_n 1, 1) := by decide +kernel
theorem dL_law__2016 : decode cL_law_ 2016 = .ok (.aload_n 0, 1) := by decide +kernel
theorem dL_law__2017 : decode cL_law_ 2017 = .ok (.iload 4, 2) := by decide +kernel
theorem dL_law__2019 : decode cL_law_ 2019 = .ok (.iconst 1, 1) := by decide +kernel
theorem dL_law__2020 : decode cL_law_ 2020 = .ok (.iadd, 1) := by decide +kernel
theorem dL_law__2021 : decode cL_law_ 2021 = .ok (.iaload, 1) := by decide +kernel
theorem dL_law__2022 : decode cL_law_ 2022 = .ok (.aload_n 0, 1) := by decide +kernel
theorem dL_law__2023 : decode cL_law_ 2023 = .ok (.iload 4, 2) := by decide +kernel
theorem dL_law__2025 : decode cL_law_ 2025 = .ok (.iconst 2, 1) := by decide +kernel
theorem dL_law__2026 : decode cL_law_ 2026 = .ok (.iadd, 1) := by decide +kernel
theorem dL_law__2027 : decode cL_law_ 2027 = .ok (.iaload, 1) := by decide +kernel
theorem dL_law__2028 : decode cL_law_ 2028 = .ok (.aload_n 0, 1) := by decide +kernel
theorem dL_law__2029 : decode cL_law_ 2029 = .ok (.iload 4, 2) := by decide +kernel
theorem dL_law__2031 : decode cL_law_ 2031 = .ok (.iconst 3, 1) := by decide +kernel
theorem dL_law__2032 : decode cL_law_ 2032 = .ok (.iadd, 1) := by decide +kernel
theorem dL_law__2033 : decode cL_law_ 2033 = .ok (.iaload, 1) := by decide +kernel
theorem dL_law__2034 : decode cL_law_ 2034 = .ok (.aload_n 0, 1) := by decide +kernel
theorem dL_law__2035 : decode cL_law_ 2035 = .ok (.iload 4, 2) := by decide +kernel
theorem dL_law__2037 : decode cL_law_ 2037 = .ok (.iconst 4, 1) := by decide +kernel
theorem dL_law__2038 : decode cL_law_ 2038 = .ok (.iadd, 1) := by decide +kernel
theorem dL_law__2039 : decode cL_law_ 2039 = .ok (.iaload, 1) := by decide +kernel
theorem dL_law__2040 : decode cL_law_ 2040 = .ok (.aload_n 0, 1) := by decide +kernel
theorem dL_law__2041 : decode cL_law_ 2041 = .ok (.iload 4, 2) := by decide +kernel
theorem dL_law__2043 : decode cL_law_ 2043 = .ok (.iconst 5, 1) := by decide +kernel
theorem dL_law__2044 : decode cL_law_ 2044 = .ok (.iadd, 1) := by decide +kernel
theorem dL_law__2045 : decode cL_law_ 2045 = .ok (.iaload, 1) := by decide +kernel
theorem dL_law__2046 : decode cL_law_ 2046 = .ok (.aload_n 3, 1) := by decide +kernel
theorem dL_law__2047 : decode cL_law_ 2047 = .ok (.invokestatic 220, 3) := by decide +kernel
theorem dL_law__2050 : decode cL_law_ 2050 = .ok (.istore 5, 2) := by decide +kernel
theorem dL_law__2052 : decode cL_law_ 2052 = .ok (.aload_n 2, 1) := by decide +kernel
theorem dL_law__2053 : decode cL_law_ 2053 = .ok (.aload_n 0, 1) := by decide +kernel
theorem dL_law__2054 : decode cL_law_ 2054 = .ok (.iload 4, 2) := by decide +kernel
theorem dL_law__2056 : decode cL_law_ 2056 = .ok (.iconst 1, 1) := by decide +kernel
theorem dL_law__2057 : decode cL_law_ 2057 = .ok (.iadd, 1) := by decide +kernel
theorem dL_law__2058 : decode cL_law_ 2058 = .ok (.iaload, 1) := by decide +kernel
theorem dL_law__2059 : decode cL_law_ 2059 = .ok (.aload_n 0, 1) := by decide +kernel
theorem dL_law__2060 : decode cL_law_ 2060 = .ok (.iload 4, 2) := by decide +kernel
theorem dL_law__2062 : decode cL_law_ 2062 = .ok (.iconst 2, 1) := by decide +kernel
theorem dL_law__2063 : decode cL_law_ 2063 = .ok (.iadd, 1) := by decide +kernel
theorem dL_law__2064 : decode cL_law_ 2064 = .ok (.iaload, 1) := by decide +kernel
theorem dL_law__2065 : decode cL_law_ 2065 = .ok (.aload_n 0, 1) := by decide +kernel
theorem dL_law__2066 : decode cL_law_ 2066 = .ok (.iload 4, 2) := by decide +kernel
theorem dL_law__2068 : decode cL_law_ 2068 = .ok (.iconst 3, 1) := by decide +kernel
theorem dL_law__2069 : decode cL_law_ 2069 = .ok (.iadd, 1) := by decide +kernel
theorem dL_law__2070 : decode cL_law_ 2070 = .ok (.iaload, 1) := by decide +kernel
theorem dL_law__2071 : decode cL_law_ 2071 = .ok (.aload_n 0, 1) := by decide +kernel
theorem dL_law__2072 : decode cL_law_ 2072 = .ok (.iload 4, 2) := by decide +kernel
theorem dL_law__2074 : decode cL_law_ 2074 = .ok (.iconst 4, 1) := by decide +kernel
theorem dL_law__2075 : decode cL_law_ 2075 = .ok (.iadd, 1) := by decide +kernel
theorem dL_law__2076 : decode cL_law_ 2076 = .ok (.iaload, 1) := by decide +kernel
theorem dL_law__2077 : decode cL_law_ 2077 = .ok (.aload_n 0, 1) := by decide +kernel
theorem dL_law__2078 : decode cL_law_ 2078 = .ok (.iload 4, 2) := by decide +kernel
theorem dL_law__2080 : decode cL_law_ 2080 = .ok (.iconst 5, 1) := by decide +kernel
theorem dL_law__2081 : decode cL_law_ 2081 = .ok (.iadd, 1) := by decide +kernel
theorem dL_law__2082 : decode cL_law_ 2082 = .ok (.iaload, 1) := by decide +kernel
theorem dL_law__2083 : decode cL_law_ 2083 = .ok (.invokevirtual 223, 3) := by decide +kernel
theorem dL_law__2086 : decode cL_law_ 2086 = .ok (.istore 6, 2) := by decide +kernel
theorem dL_law__2088 : decode cL_law_ 2088 = .ok (.aload_n 2, 1) := by decide +kernel
theorem dL_law__2089 : decode cL_law_ 2089 = .ok (.invokevirtual 121, 3) := by decide +kernel
theorem dL_law__2092 : decode cL_law_ 2092 = .ok (.iload 5, 2) := by decide +kernel
theorem dL_law__2094 : decode cL_law_ 2094 = .ok (.if_icmp .eq 5, 3) := by decide +kernel
theorem dL_law__2097 : decode cL_law_ 2097 = .ok (.iconst 0, 1) := by decide +kernel
theorem dL_law__2098 : decode cL_law_ 2098 = .ok (.ireturn, 1) := by decide +kernel
theorem dL_law__2099 : decode cL_law_ 2099 = .ok (.iload 5, 2) := by decide +kernel
theorem dL_law__2101 : decode cL_law_ 2101 = .ok (.ifCond .ne 15, 3) := by decide +kernel
theorem dL_law__2104 : decode cL_law_ 2104 = .ok (.aload_n 3, 1) := by decide +kernel
theorem dL_law__2105 : decode cL_law_ 2105 = .ok (.iconst 0, 1) := by decide +kernel
theorem dL_law__2106 : decode cL_law_ 2106 = .ok (.laload, 1) := by decide +kernel
theorem dL_law__2107 : decode cL_law_ 2107 = .ok (.iload 6, 2) := by decide +kernel
theorem dL_law__2109 : decode cL_law_ 2109 = .ok (.i2l, 1) := by decide +kernel
theorem dL_law__2110 : decode cL_law_ 2110 = .ok (.lcmp, 1) := by decide +kernel
theorem dL_law__2111 : decode cL_law_ 2111 = .ok (.ifCond .eq 5, 3) := by decide +kernel
theorem dL_law__2114 : decode cL_law_ 2114 = .ok (.iconst 0, 1) := by decide +kernel
theorem dL_law__2115 : decode cL_law_ 2115 = .ok (.ireturn, 1) := by decide +kernel
theorem dL_law__2116 : decode cL_law_ 2116 = .ok (.goto 191, 3) := by decide +kernel
theorem dL_law__2119 : decode cL_law_ 2119 = .ok (.aload_n 1, 1) := by decide +kernel
theorem dL_law__2120 : decode cL_law_ 2120 = .ok (.aload_n 0, 1) := by decide +kernel
theorem dL_law__2121 : decode cL_law_ 2121 = .ok (.iload 4, 2) := by decide +kernel
theorem dL_law__2123 : decode cL_law_ 2123 = .ok (.iconst 1, 1) := by decide +kernel
theorem dL_law__2124 : decode cL_law_ 2124 = .ok (.iadd, 1) := by decide +kernel
theorem dL_law__2125 : decode cL_law_ 2125 = .ok (.iaload, 1) := by decide +kernel
theorem dL_law__2126 : decode cL_law_ 2126 = .ok (.aload_n 3, 1) := by decide +kernel
theorem dL_law__2127 : decode cL_law_ 2127 = .ok (.invokestatic 224, 3) := by decide +kernel
theorem dL_law__2130 : decode cL_law_ 2130 = .ok (.istore 5, 2) := by decide +kernel
theorem dL_law__2132 : decode cL_law_ 2132 = .ok (.aload_n 2, 1) := by decide +kernel
theorem dL_law__2133 : decode cL_law_ 2133 = .ok (.aload_n 0, 1) := by decide +kernel
theorem dL_law__2134 : decode cL_law_ 2134 = .ok (.iload 4, 2) := by decide +kernel
theorem dL_law__2136 : decode cL_law_ 2136 = .ok (.iconst 1, 1) := by decide +kernel
theorem dL_law__2137 : decode cL_law_ 2137 = .ok (.iadd, 1) := by decide +kernel
theorem dL_law__2138 : decode cL_law_ 2138 = .ok (.iaload, 1) := by decide +kernel
theorem dL_law__2139 : decode cL_law_ 2139 = .ok (.invokevirtual 226, 3) := by decide +kernel
theorem dL_law__2142 : decode cL_law_ 2142 = .ok (.istore 6, 2) := by decide +kernel
theorem dL_law__2144 : decode cL_law_ 2144 = .ok (.aload_n 2, 1) := by decide +kernel
theorem dL_law__2145 : decode cL_law_ 2145 = .ok (.invokevirtual 121, 3) := by decide +kernel
theorem dL_law__2148 : decode cL_law_ 2148 = .ok (.iload 5, 2) := by decide +kernel
theorem dL_law__2150 : decode cL_law_ 2150 = .ok (.if_icmp .eq 5, 3) := by decide +kernel
theorem dL_law__2153 : decode cL_law_ 2153 = .ok (.iconst 0, 1) := by decide +kernel
theorem dL_law__2154 : decode cL_law_ 2154 = .ok (.ireturn, 1) := by decide +kernel
theorem dL_law__2155 : decode cL_law_ 2155 = .ok (.iload 5, 2) := by decide +kernel
theorem dL_law__2157 : decode cL_law_ 2157 = .ok (.ifCond .ne 15, 3) := by decide +kernel
theorem dL_law__2160 : decode cL_law_ 2160 = .ok (.aload_n 3, 1) := by decide +kernel
theorem dL_law__2161 : decode cL_law_ 2161 = .ok (.iconst 0, 1) := by decide +kernel
theorem dL_law__2162 : decode cL_law_ 2162 = .ok (.laload, 1) := by decide +kernel
theorem dL_law__2163 : decode cL_law_ 2163 = .ok (.iload 6, 2) := by decide +kernel
theorem dL_law__2165 : decode cL_law_ 2165 = .ok (.i2l, 1) := by decide +kernel
theorem dL_law__2166 : decode cL_law_ 2166 = .ok (.lcmp, 1) := by decide +kernel
theorem dL_law__2167 : decode cL_law_ 2167 = .ok (.ifCond .eq 5, 3) := by decide +kernel
theorem dL_law__2170 : decode cL_law_ 2170 = .ok (.iconst 0, 1) := by decide +kernel
theorem dL_law__2171 : decode cL_law_ 2171 = .ok (.ireturn, 1) := by decide +kernel
theorem dL_law__2172 : decode cL_law_ 2172 = .ok (.goto 135, 3) := by decide +kernel
theorem dL_law__2175 : decode cL_law_ 2175 = .ok (.aload_n 1, 1) := by decide +kernel
theorem dL_law__2176 : decode cL_law_ 2176 = .ok (.aload_n 0, 1) := by decide +kernel
theorem dL_law__2177 : decode cL_law_ 2177 = .ok (.iload 4, 2) := by decide +kernel
theorem dL_law__2179 : decode cL_law_ 2179 = .ok (.iconst 1, 1) := by decide +kernel
theorem dL_law__2180 : decode cL_law_ 2180 = .ok (.iadd, 1) := by decide +kernel
theorem dL_law__2181 : decode cL_law_ 2181 = .ok (.iaload, 1) := by decide +kernel
theorem dL_law__2182 : decode cL_law_ 2182 = .ok (.aload_n 3, 1) := by decide +kernel
theorem dL_law__2183 : decode cL_law_ 2183 = .ok (.invokestatic 227, 3) := by decide +kernel
theorem dL_law__2186 : decode cL_law_ 2186 = .ok (.istore 5, 2) := by decide +kernel
theorem dL_law__2188 : decode cL_law_ 2188 = .ok (.aload_n 2, 1) := by decide +kernel
theorem dL_law__2189 : decode cL_law_ 2189 = .ok (.aload_n 0, 1) := by decide +kernel
theorem dL_law__2190 : decode cL_law_ 2190 = .ok (.iload 4, 2) := by decide +kernel
theorem dL_law__2192 : decode cL_law_ 2192 = .ok (.iconst 1, 1) := by decide +kernel
theorem dL_law__2193 : decode cL_law_ 2193 = .ok (.iadd, 1) := by decide +kernel
theorem dL_law__2194 : decode cL_law_ 2194 = .ok (.iaload, 1) := by decide +kernel
theorem dL_law__2195 : decode cL_law_ 2195 = .ok (.invokevirtual 229, 3) := by decide +kernel
theorem dL_law__2198 : decode cL_law_ 2198 = .ok (.istore 6, 2) := by decide +kernel
theorem dL_law__2200 : decode cL_law_ 2200 = .ok (.aload_n 2, 1) := by decide +kernel
theorem dL_law__2201 : decode cL_law_ 2201 = .ok (.invokevirtual 121, 3) := by decide +kernel
theorem dL_law__2204 : decode cL_law_ 2204 = .ok (.iload 5, 2) := by decide +kernel
theorem dL_law__2206 : decode cL_law_ 2206 = .ok (.if_icmp .eq 5, 3) := by decide +kernel
theorem dL_law__2209 : decode cL_law_ 2209 = .ok (.iconst 0, 1) := by decide +kernel
theorem dL_law__2210 : decode cL_law_ 2210 = .ok (.ireturn, 1) := by decide +kernel
theorem dL_law__2211 : decode cL_law_ 2211 = .ok (.iload 5, 2) := by decide +kernel
theorem dL_law__2213 : decode cL_law_ 2213 = .ok (.ifCond .ne 15, 3) := by decide +kernel
theorem dL_law__2216 : decode cL_law_ 2216 = .ok (.aload_n 3, 1) := by decide +kernel
theorem dL_law__2217 : decode cL_law_ 2217 = .ok (.iconst 0, 1) := by decide +kernel
theorem dL_law__2218 : decode cL_law_ 2218 = .ok (.laload, 1) := by decide +kernel
theorem dL_law__2219 : decode cL_law_ 2219 = .ok (.iload 6, 2) := by decide +kernel
theorem dL_law__2221 : decode cL_law_ 2221 = .ok (.i2l, 1) := by decide +kernel
theorem dL_law__2222 : decode cL_law_ 2222 = .ok (.lcmp, 1) := by decide +kernel
theorem dL_law__2223 : decode cL_law_ 2223 = .ok (.ifCond .eq 5, 3) := by decide +kernel
theorem dL_law__2226 : decode cL_law_ 2226 = .ok (.iconst 0, 1) := by decide +kernel
theorem dL_law__2227 : decode cL_law_ 2227 = .ok (.ireturn, 1) := by decide +kernel
theorem dL_law__2228 : decode cL_law_ 2228 = .ok (.goto 79, 3) := by decide +kernel
theorem dL_law__2231 : decode cL_law_ 2231 = .ok (.aload_n 1, 1) := by decide +kernel
theorem dL_law__2232 : decode cL_law_ 2232 = .ok (.invokevirtual 230, 3) := by decide +kernel
theorem dL_law__2235 : decode cL_law_ 2235 = .ok (.aload_n 2, 1) := by decide +kernel
theorem dL_law__2236 : decode cL_law_ 2236 = .ok (.invokevirtual 233, 3) := by decide +kernel
theorem dL_law__2239 : decode cL_law_ 2239 = .ok (.if_icmp .eq 68, 3) := by decide +kernel
theorem dL_law__2242 : decode cL_law_ 2242 = .ok (.iconst 0, 1) := by decide +kernel
theorem dL_law__2243 : decode cL_law_ 2243 = .ok (.ireturn, 1) := by decide +kernel
theorem dL_law__2244 : decode cL_law_ 2244 = .ok (.aload_n 1, 1) := by decide +kernel
theorem dL_law__2245 : decode cL_law_ 2245 = .ok (.invokevirtual 234, 3) := by decide +kernel
theorem dL_law__2248 : decode cL_law_ 2248 = .ok (.aload_n 2, 1) := by decide +kernel
theorem dL_law__2249 : decode cL_law_ 2249 = .ok (.invokevirtual 237, 3) := by decide +kernel
theorem dL_law__2252 : decode cL_law_ 2252 = .ok (.if_icmp .eq 55, 3) := by decide +kernel
theorem dL_law__2255 : decode cL_law_ 2255 = .ok (.iconst 0, 1) := by decide +kernel
theorem dL_law__2256 : decode cL_law_ 2256 = .ok (.ireturn, 1) := by decide +kernel
theorem dL_law__2257 : decode cL_law_ 2257 = .ok (.aload_n 1, 1) := by decide +kernel
theorem dL_law__2258 : decode cL_law_ 2258 = .ok (.aload_n 0, 1) := by decide +kernel
theorem dL_law__2259 : decode cL_law_ 2259 = .ok (.iload 4, 2) := by decide +kernel
theorem dL_law__2261 : decode cL_law_ 2261 = .ok (.iconst 1, 1) := by decide +kernel
theorem dL_law__2262 : decode cL_law_ 2262 = .ok (.iadd, 1) := by decide +kernel
theorem dL_law__2263 : decode cL_law_ 2263 = .ok (.iaload, 1) := by decide +kernel
theorem dL_law__2264 : decode cL_law_ 2264 = .ok (.invokevirtual 238, 3) := by decide +kernel
theorem dL_law__2267 : decode cL_law_ 2267 = .ok (.aload_n 2, 1) := by decide +kernel
theorem dL_law__2268 : decode cL_law_ 2268 = .ok (.aload_n 0, 1) := by decide +kernel
theorem dL_law__2269 : decode cL_law_ 2269 = .ok (.iload 4, 2) := by decide +kernel
theorem dL_law__2271 : decode cL_law_ 2271 = .ok (.iconst 1, 1) := by decide +kernel
theorem dL_law__2272 : decode cL_law_ 2272 = .ok (.iadd, 1) := by decide +kernel
theorem dL_law__2273 : decode cL_law_ 2273 = .ok (.iaload, 1) := by decide +kernel
theorem dL_law__2274 : decode cL_law_ 2274 = .ok (.invokevirtual 241, 3) := by decide +kernel
theorem dL_law__2277 : decode cL_law_ 2277 = .ok (.if_icmp .eq 30, 3) := by decide +kernel
theorem dL_law__2280 : decode cL_law_ 2280 = .ok (.iconst 0, 1) := by decide +kernel
theorem dL_law__2281 : decode cL_law_ 2281 = .ok (.ireturn, 1) := by decide +kernel
theorem dL_law__2282 : decode cL_law_ 2282 = .ok (.aload_n 1, 1) := by decide +kernel
theorem dL_law__2283 : decode cL_law_ 2283 = .ok (.aload_n 0, 1) := by decide +kernel
theorem dL_law__2284 : decode cL_law_ 2284 = .ok (.iload 4, 2) := by decide +kernel
theorem dL_law__2286 : decode cL_law_ 2286 = .ok (.iconst 1, 1) := by decide +kernel
theorem dL_law__2287 : decode cL_law_ 2287 = .ok (.iadd, 1) := by decide +kernel
theorem dL_law__2288 : decode cL_law_ 2288 = .ok (.iaload, 1) := by decide +kernel
theorem dL_law__2289 : decode cL_law_ 2289 = .ok (.invokevirtual 242, 3) := by decide +kernel
theorem dL_law__2292 : decode cL_law_ 2292 = .ok (.aload_n 2, 1) := by decide +kernel
theorem dL_law__2293 : decode cL_law_ 2293 = .ok (.aload_n 0, 1) := by decide +kernel
theorem dL_law__2294 : decode cL_law_ 2294 = .ok (.iload 4, 2) := by decide +kernel
theorem dL_law__2296 : decode cL_law_ 2296 = .ok (.iconst 1, 1) := by decide +kernel
theorem dL_law__2297 : decode cL_law_ 2297 = .ok (.iadd, 1) := by decide +kernel
theorem dL_law__2298 : decode cL_law_ 2298 = .ok (.iaload, 1) := by decide +kernel
theorem dL_law__2299 : decode cL_law_ 2299 = .ok (.invokevirtual 245, 3) := by decide +kernel
theorem dL_law__2302 : decode cL_law_ 2302 = .ok (.if_icmp .eq 5, 3) := by decide +kernel
theorem dL_law__2305 : decode cL_law_ 2305 = .ok (.iconst 0, 1) := by decide +kernel
theorem dL_law__2306 : decode cL_law_ 2306 = .ok (.ireturn, 1) := by decide +kernel
theorem dL_law__2307 : decode cL_law_ 2307 = .ok (.iinc 4 6, 3) := by decide +kernel
theorem dL_law__2310 : decode cL_law_ 2310 = .ok (.goto (-2287), 3) := by decide +kernel
theorem dL_law__2313 : decode cL_law_ 2313 = .ok (.iconst 1, 1) := by decide +kernel
theorem dL_law__2314 : decode cL_law_ 2314 = .ok (.ireturn, 1) := by decide +kernel
