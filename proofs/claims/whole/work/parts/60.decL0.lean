theorem dL_law__0 : decode cL_law_ 0 = .ok (.new 8, 3) := by decide +kernel
theorem dL_law__3 : decode cL_law_ 3 = .ok (.dup, 1) := by decide +kernel
theorem dL_law__4 : decode cL_law_ 4 = .ok (.invokespecial 147, 3) := by decide +kernel
theorem dL_law__7 : decode cL_law_ 7 = .ok (.astore_n 1, 1) := by decide +kernel
theorem dL_law__8 : decode cL_law_ 8 = .ok (.new 148, 3) := by decide +kernel
theorem dL_law__11 : decode cL_law_ 11 = .ok (.dup, 1) := by decide +kernel
theorem dL_law__12 : decode cL_law_ 12 = .ok (.invokespecial 150, 3) := by decide +kernel
theorem dL_law__15 : decode cL_law_ 15 = .ok (.astore_n 2, 1) := by decide +kernel
theorem dL_law__16 : decode cL_law_ 16 = .ok (.iconst 1, 1) := by decide +kernel
theorem dL_law__17 : decode cL_law_ 17 = .ok (.newarray .long, 2) := by decide +kernel
theorem dL_law__19 : decode cL_law_ 19 = .ok (.astore_n 3, 1) := by decide +kernel
theorem dL_law__20 : decode cL_law_ 20 = .ok (.iconst 0, 1) := by decide +kernel
theorem dL_law__21 : decode cL_law_ 21 = .ok (.istore 4, 2) := by decide +kernel
theorem dL_law__23 : decode cL_law_ 23 = .ok (.iload 4, 2) := by decide +kernel
theorem dL_law__25 : decode cL_law_ 25 = .ok (.aload_n 0, 1) := by decide +kernel
theorem dL_law__26 : decode cL_law_ 26 = .ok (.arraylength, 1) := by decide +kernel
theorem dL_law__27 : decode cL_law_ 27 = .ok (.bipush 6, 2) := by decide +kernel
theorem dL_law__29 : decode cL_law_ 29 = .ok (.isub, 1) := by decide +kernel
theorem dL_law__30 : decode cL_law_ 30 = .ok (.if_icmp .gt 3494, 3) := by decide +kernel
theorem dL_law__33 : decode cL_law_ 33 = .ok (.aload_n 0, 1) := by decide +kernel
theorem dL_law__34 : decode cL_law_ 34 = .ok (.iload 4, 2) := by decide +kernel
theorem dL_law__36 : decode cL_law_ 36 = .ok (.iaload, 1) := by decide +kernel
theorem dL_law__37 : decode cL_law_ 37 = .ok (.bipush 63, 2) := by decide +kernel
theorem dL_law__39 : decode cL_law_ 39 = .ok (.iand, 1) := by decide +kernel
theorem dL_law__40 : decode cL_law_ 40 = .ok (.tableswitch 3478 0 61 #[264, 337, 362, 406, 450, 463, 531, 599, 695, 763, 859, 943, 1011, 1067, 1135, 1191, 1294, 1362, 1418, 1514, 1582, 1650, 1718, 1774, 1830, 1899, 1940, 1996, 2052, 2108, 2149, 2205, 2261, 2274, 2342, 2355, 2418, 2431, 2499, 2555, 2611, 2624, 2692, 2748, 2804, 2817, 2897, 2910, 2923, 2936, 2949, 2962, 2975, 3071, 3155, 3239, 3323, 3391, 3416, 3429, 3440, 3453], 264) := by decide +kernel
theorem dL_law__304 : decode cL_law_ 304 = .ok (.aload_n 1, 1) := by decide +kernel
theorem dL_law__305 : decode cL_law_ 305 = .ok (.aload_n 0, 1) := by decide +kernel
theorem dL_law__306 : decode cL_law_ 306 = .ok (.iload 4, 2) := by decide +kernel
theorem dL_law__308 : decode cL_law_ 308 = .ok (.iconst 1, 1) := by decide +kernel
theorem dL_law__309 : decode cL_law_ 309 = .ok (.iadd, 1) := by decide +kernel
theorem dL_law__310 : decode cL_law_ 310 = .ok (.iaload, 1) := by decide +kernel
theorem dL_law__311 : decode cL_law_ 311 = .ok (.aload_n 0, 1) := by decide +kernel
theorem dL_law__312 : decode cL_law_ 312 = .ok (.iload 4, 2) := by decide +kernel
theorem dL_law__314 : decode cL_law_ 314 = .ok (.iconst 2, 1) := by decide +kernel
theorem dL_law__315 : decode cL_law_ 315 = .ok (.iadd, 1) := by decide +kernel
theorem dL_law__316 : decode cL_law_ 316 = .ok (.iaload, 1) := by decide +kernel
theorem dL_law__317 : decode cL_law_ 317 = .ok (.aload_n 0, 1) := by decide +kernel
theorem dL_law__318 : decode cL_law_ 318 = .ok (.iload 4, 2) := by decide +kernel
theorem dL_law__320 : decode cL_law_ 320 = .ok (.iconst 3, 1) := by decide +kernel
theorem dL_law__321 : decode cL_law_ 321 = .ok (.iadd, 1) := by decide +kernel
theorem dL_law__322 : decode cL_law_ 322 = .ok (.iaload, 1) := by decide +kernel
theorem dL_law__323 : decode cL_law_ 323 = .ok (.aload_n 0, 1) := by decide +kernel
theorem dL_law__324 : decode cL_law_ 324 = .ok (.iload 4, 2) := by decide +kernel
theorem dL_law__326 : decode cL_law_ 326 = .ok (.iconst 4, 1) := by decide +kernel
theorem dL_law__327 : decode cL_law_ 327 = .ok (.iadd, 1) := by decide +kernel
theorem dL_law__328 : decode cL_law_ 328 = .ok (.iaload, 1) := by decide +kernel
theorem dL_law__329 : decode cL_law_ 329 = .ok (.aload_n 0, 1) := by decide +kernel
theorem dL_law__330 : decode cL_law_ 330 = .ok (.iload 4, 2) := by decide +kernel
theorem dL_law__332 : decode cL_law_ 332 = .ok (.iconst 5, 1) := by decide +kernel
theorem dL_law__333 : decode cL_law_ 333 = .ok (.iadd, 1) := by decide +kernel
theorem dL_law__334 : decode cL_law_ 334 = .ok (.iaload, 1) := by decide +kernel
theorem dL_law__335 : decode cL_law_ 335 = .ok (.invokevirtual 151, 3) := by decide +kernel
theorem dL_law__338 : decode cL_law_ 338 = .ok (.aload_n 2, 1) := by decide +kernel
theorem dL_law__339 : decode cL_law_ 339 = .ok (.aload_n 0, 1) := by decide +kernel
theorem dL_law__340 : decode cL_law_ 340 = .ok (.iload 4, 2) := by decide +kernel
theorem dL_law__342 : decode cL_law_ 342 = .ok (.iconst 1, 1) := by decide +kernel
theorem dL_law__343 : decode cL_law_ 343 = .ok (.iadd, 1) := by decide +kernel
theorem dL_law__344 : decode cL_law_ 344 = .ok (.iaload, 1) := by decide +kernel
theorem dL_law__345 : decode cL_law_ 345 = .ok (.aload_n 0, 1) := by decide +kernel
theorem dL_law__346 : decode cL_law_ 346 = .ok (.iload 4, 2) := by decide +kernel
theorem dL_law__348 : decode cL_law_ 348 = .ok (.iconst 2, 1) := by decide +kernel
theorem dL_law__349 : decode cL_law_ 349 = .ok (.iadd, 1) := by decide +kernel
theorem dL_law__350 : decode cL_law_ 350 = .ok (.iaload, 1) := by decide +kernel
theorem dL_law__351 : decode cL_law_ 351 = .ok (.aload_n 0, 1) := by decide +kernel
theorem dL_law__352 : decode cL_law_ 352 = .ok (.iload 4, 2) := by decide +kernel
theorem dL_law__354 : decode cL_law_ 354 = .ok (.iconst 3, 1) := by decide +kernel
theorem dL_law__355 : decode cL_law_ 355 = .ok (.iadd, 1) := by decide +kernel
theorem dL_law__356 : decode cL_law_ 356 = .ok (.iaload, 1) := by decide +kernel
theorem dL_law__357 : decode cL_law_ 357 = .ok (.aload_n 0, 1) := by decide +kernel
theorem dL_law__358 : decode cL_law_ 358 = .ok (.iload 4, 2) := by decide +kernel
theorem dL_law__360 : decode cL_law_ 360 = .ok (.iconst 4, 1) := by decide +kernel
theorem dL_law__361 : decode cL_law_ 361 = .ok (.iadd, 1) := by decide +kernel
theorem dL_law__362 : decode cL_law_ 362 = .ok (.iaload, 1) := by decide +kernel
theorem dL_law__363 : decode cL_law_ 363 = .ok (.aload_n 0, 1) := by decide +kernel
theorem dL_law__364 : decode cL_law_ 364 = .ok (.iload 4, 2) := by decide +kernel
theorem dL_law__366 : decode cL_law_ 366 = .ok (.iconst 5, 1) := by decide +kernel
theorem dL_law__367 : decode cL_law_ 367 = .ok (.iadd, 1) := by decide +kernel
theorem dL_law__368 : decode cL_law_ 368 = .ok (.iaload, 1) := by decide +kernel
theorem dL_law__369 : decode cL_law_ 369 = .ok (.invokevirtual 155, 3) := by decide +kernel
theorem dL_law__372 : decode cL_law_ 372 = .ok (.if_icmp .eq 3146, 3) := by decide +kernel
theorem dL_law__375 : decode cL_law_ 375 = .ok (.iconst 0, 1) := by decide +kernel
theorem dL_law__376 : decode cL_law_ 376 = .ok (.ireturn, 1) := by decide +kernel
theorem dL_law__377 : decode cL_law_ 377 = .ok (.aload_n 1, 1) := by decide +kernel
theorem dL_law__378 : decode cL_law_ 378 = .ok (.aload_n 0, 1) := by decide +kernel
theorem dL_law__379 : decode cL_law_ 379 = .ok (.iload 4, 2) := by decide +kernel
theorem dL_law__381 : decode cL_law_ 381 = .ok (.iconst 1, 1) := by decide +kernel
theorem dL_law__382 : decode cL_law_ 382 = .ok (.iadd, 1) := by decide +kernel
theorem dL_law__383 : decode cL_law_ 383 = .ok (.iaload, 1) := by decide +kernel
theorem dL_law__384 : decode cL_law_ 384 = .ok (.invokevirtual 156, 3) := by decide +kernel
theorem dL_law__387 : decode cL_law_ 387 = .ok (.aload_n 2, 1) := by decide +kernel
theorem dL_law__388 : decode cL_law_ 388 = .ok (.aload_n 0, 1) := by decide +kernel
theorem dL_law__389 : decode cL_law_ 389 = .ok (.iload 4, 2) := by decide +kernel
theorem dL_law__391 : decode cL_law_ 391 = .ok (.iconst 1, 1) := by decide +kernel
theorem dL_law__392 : decode cL_law_ 392 = .ok (.iadd, 1) := by decide +kernel
theorem dL_law__393 : decode cL_law_ 393 = .ok (.iaload, 1) := by decide +kernel
theorem dL_law__394 : decode cL_law_ 394 = .ok (.invokevirtual 159, 3) := by decide +kernel
theorem dL_law__397 : decode cL_law_ 397 = .ok (.if_icmp .eq 3121, 3) := by decide +kernel
theorem dL_law__400 : decode cL_law_ 400 = .ok (.iconst 0, 1) := by decide +kernel
theorem dL_law__401 : decode cL_law_ 401 = .ok (.ireturn, 1) := by decide +kernel
theorem dL_law__402 : decode cL_law_ 402 = .ok (.aload_n 1, 1) := by decide +kernel
theorem dL_law__403 : decode cL_law_ 403 = .ok (.aload_n 3, 1) := by decide +kernel
theorem dL_law__404 : decode cL_law_ 404 = .ok (.invokestatic 160, 3) := by decide +kernel
theorem dL_law__407 : decode cL_law_ 407 = .ok (.istore 5, 2) := by decide +kernel
theorem dL_law__409 : decode cL_law_ 409 = .ok (.aload_n 2, 1) := by decide +kernel
theorem dL_law__410 : decode cL_law_ 410 = .ok (.invokevirtual 165, 3) := by decide +kernel
theorem dL_law__413 : decode cL_law_ 413 = .ok (.istore 6, 2) := by decide +kernel
theorem dL_law__415 : decode cL_law_ 415 = .ok (.aload_n 2, 1) := by decide +kernel
theorem dL_law__416 : decode cL_law_ 416 = .ok (.invokevirtual 166, 3) := by decide +kernel
theorem dL_law__419 : decode cL_law_ 419 = .ok (.iload 5, 2) := by decide +kernel
theorem dL_law__421 : decode cL_law_ 421 = .ok (.if_icmp .eq 5, 3) := by decide +kernel
theorem dL_law__424 : decode cL_law_ 424 = .ok (.iconst 0, 1) := by decide +kernel
theorem dL_law__425 : decode cL_law_ 425 = .ok (.ireturn, 1) := by decide +kernel
theorem dL_law__426 : decode cL_law_ 426 = .ok (.iload 5, 2) := by decide +kernel
theorem dL_law__428 : decode cL_law_ 428 = .ok (.ifCond .ne 15, 3) := by decide +kernel
theorem dL_law__431 : decode cL_law_ 431 = .ok (.aload_n 3, 1) := by decide +kernel
theorem dL_law__432 : decode cL_law_ 432 = .ok (.iconst 0, 1) := by decide +kernel
theorem dL_law__433 : decode cL_law_ 433 = .ok (.laload, 1) := by decide +kernel
theorem dL_law__434 : decode cL_law_ 434 = .ok (.iload 6, 2) := by decide +kernel
theorem dL_law__436 : decode cL_law_ 436 = .ok (.i2l, 1) := by decide +kernel
theorem dL_law__437 : decode cL_law_ 437 = .ok (.lcmp, 1) := by decide +kernel
theorem dL_law__438 : decode cL_law_ 438 = .ok (.ifCond .eq 5, 3) := by decide +kernel
theorem dL_law__441 : decode cL_law_ 441 = .ok (.iconst 0, 1) := by decide +kernel
theorem dL_law__442 : decode cL_law_ 442 = .ok (.ireturn, 1) := by decide +kernel
theorem dL_law__443 : decode cL_law_ 443 = .ok (.goto 3075, 3) := by decide +kernel
theorem dL_law__446 : decode cL_law_ 446 = .ok (.aload_n 1, 1) := by decide +kernel
theorem dL_law__447 : decode cL_law_ 447 = .ok (.aload_n 3, 1) := by decide +kernel
theorem dL_law__448 : decode cL_law_ 448 = .ok (.invokestatic 169, 3) := by decide +kernel
theorem dL_law__451 : decode cL_law_ 451 = .ok (.istore 5, 2) := by decide +kernel
theorem dL_law__453 : decode cL_law_ 453 = .ok (.aload_n 2, 1) := by decide +kernel
theorem dL_law__454 : decode cL_law_ 454 = .ok (.invokevirtual 171, 3) := by decide +kernel
theorem dL_law__457 : decode cL_law_ 457 = .ok (.istore 6, 2) := by decide +kernel
theorem dL_law__459 : decode cL_law_ 459 = .ok (.aload_n 2, 1) := by decide +kernel
theorem dL_law__460 : decode cL_law_ 460 = .ok (.invokevirtual 166, 3) := by decide +kernel
theorem dL_law__463 : decode cL_law_ 463 = .ok (.iload 5, 2) := by decide +kernel
theorem dL_law__465 : decode cL_law_ 465 = .ok (.if_icmp .eq 5, 3) := by decide +kernel
theorem dL_law__468 : decode cL_law_ 468 = .ok (.iconst 0, 1) := by decide +kernel
theorem dL_law__469 : decode cL_law_ 469 = .ok (.ireturn, 1) := by decide +kernel
theorem dL_law__470 : decode cL_law_ 470 = .ok (.iload 5, 2) := by decide +kernel
theorem dL_law__472 : decode cL_law_ 472 = .ok (.ifCond .ne 15, 3) := by decide +kernel
theorem dL_law__475 : decode cL_law_ 475 = .ok (.aload_n 3, 1) := by decide +kernel
theorem dL_law__476 : decode cL_law_ 476 = .ok (.iconst 0, 1) := by decide +kernel
theorem dL_law__477 : decode cL_law_ 477 = .ok (.laload, 1) := by decide +kernel
theorem dL_law__478 : decode cL_law_ 478 = .ok (.iload 6, 2) := by decide +kernel
theorem dL_law__480 : decode cL_law_ 480 = .ok (.i2l, 1) := by decide +kernel
theorem dL_law__481 : decode cL_law_ 481 = .ok (.lcmp, 1) := by decide +kernel
theorem dL_law__482 : decode cL_law_ 482 = .ok (.ifCond .eq 5, 3) := by decide +kernel
theorem dL_law__485 : decode cL_law_ 485 = .ok (.iconst 0, 1) := by decide +kernel
theorem dL_law__486 : decode cL_law_ 486 = .ok (.ireturn, 1) := by decide +kernel
theorem dL_law__487 : decode cL_law_ 487 = .ok (.goto 3031, 3) := by decide +kernel
theorem dL_law__490 : decode cL_law_ 490 = .ok (.aload_n 1, 1) := by decide +kernel
theorem dL_law__491 : decode cL_law_ 491 = .ok (.invokevirtual 172, 3) := by decide +kernel
theorem dL_law__494 : decode cL_law_ 494 = .ok (.aload_n 2, 1) := by decide +kernel
theorem dL_law__495 : decode cL_law_ 495 = .ok (.invokevirtual 175, 3) := by decide +kernel
theorem dL_law__498 : decode cL_law_ 498 = .ok (.if_icmp .eq 3020, 3) := by decide +kernel
theorem dL_law__501 : decode cL_law_ 501 = .ok (.iconst 0, 1) := by decide +kernel
theorem dL_law__502 : decode cL_law_ 502 = .ok (.ireturn, 1) := by decide +kernel
theorem dL_law__503 : decode cL_law_ 503 = .ok (.aload_n 1, 1) := by decide +kernel
theorem dL_law__504 : decode cL_law_ 504 = .ok (.aload_n 0, 1) := by decide +kernel
theorem dL_law__505 : decode cL_law_ 505 = .ok (.iload 4, 2) := by decide +kernel
theorem dL_law__507 : decode cL_law_ 507 = .ok (.iconst 1, 1) := by decide +kernel
theorem dL_law__508 : decode cL_law_ 508 = .ok (.iadd, 1) := by decide +kernel
theorem dL_law__509 : decode cL_law_ 509 = .ok (.iaload, 1) := by decide +kernel
theorem dL_law__510 : decode cL_law_ 510 = .ok (.aload_n 0, 1) := by decide +kernel
theorem dL_law__511 : decode cL_law_ 511 = .ok (.iload 4, 2) := by decide +kernel
theorem dL_law__513 : decode cL_law_ 513 = .ok (.iconst 2, 1) := by decide +kernel
theorem dL_law__514 : decode cL_law_ 514 = .ok (.iadd, 1) := by decide +kernel
theorem dL_law__515 : decode cL_law_ 515 = .ok (.iaload, 1) := by decide +kernel
theorem dL_law__516 : decode cL_law_ 516 = .ok (.aload_n 3, 1) := by decide +kernel
theorem dL_law__517 : decode cL_law_ 517 = .ok (.invokestatic 176, 3) := by decide +kernel
theorem dL_law__520 : decode cL_law_ 520 = .ok (.istore 5, 2) := by decide +kernel
theorem dL_law__522 : decode cL_law_ 522 = .ok (.aload_n 2, 1) := by decide +kernel
theorem dL_law__523 : decode cL_law_ 523 = .ok (.aload_n 0, 1) := by decide +kernel
theorem dL_law__524 : decode cL_law_ 524 = .ok (.iload 4, 2) := by decide +kernel
theorem dL_law__526 : decode cL_law_ 526 = .ok (.iconst 1, 1) := by decide +kernel
theorem dL_law__527 : decode cL_law_ 527 = .ok (.iadd, 1) := by decide +kernel
theorem dL_law__528 : decode cL_law_ 528 = .ok (.iaload, 1) := by decide +kernel
theorem dL_law__529 : decode cL_law_ 529 = .ok (.aload_n 0, 1) := by decide +kernel
theorem dL_law__530 : decode cL_law_ 530 = .ok (.iload 4, 2) := by decide +kernel
theorem dL_law__532 : decode cL_law_ 532 = .ok (.iconst 2, 1) := by decide +kernel
theorem dL_law__533 : decode cL_law_ 533 = .ok (.iadd, 1) := by decide +kernel
theorem dL_law__534 : decode cL_law_ 534 = .ok (.iaload, 1) := by decide +kernel
theorem dL_law__535 : decode cL_law_ 535 = .ok (.invokevirtual 179, 3) := by decide +kernel
theorem dL_law__538 : decode cL_law_ 538 = .ok (.istore 6, 2) := by decide +kernel
theorem dL_law__540 : decode cL_law_ 540 = .ok (.aload_n 2, 1) := by decide +kernel
theorem dL_law__541 : decode cL_law_ 541 = .ok (.invokevirtual 166, 3) := by decide +kernel
theorem dL_law__544 : decode cL_law_ 544 = .ok (.iload 5, 2) := by decide +kernel
theorem dL_law__546 : decode cL_law_ 546 = .ok (.if_icmp .eq 5, 3) := by decide +kernel
theorem dL_law__549 : decode cL_law_ 549 = .ok (.iconst 0, 1) := by decide +kernel
theorem dL_law__550 : decode cL_law_ 550 = .ok (.ireturn, 1) := by decide +kernel
theorem dL_law__551 : decode cL_law_ 551 = .ok (.iload 5, 2) := by decide +kernel
theorem dL_law__553 : decode cL_law_ 553 = .ok (.ifCond .ne 15, 3) := by decide +kernel
theorem dL_law__556 : decode cL_law_ 556 = .ok (.aload_n 3, 1) := by decide +kernel
theorem dL_law__557 : decode cL_law_ 557 = .ok (.iconst 0, 1) := by decide +kernel
theorem dL_law__558 : decode cL_law_ 558 = .ok (.laload, 1) := by decide +kernel
theorem dL_law__559 : decode cL_law_ 559 = .ok (.iload 6, 2) := by decide +kernel
theorem dL_law__561 : decode cL_law_ 561 = .ok (.i2l, 1) := by decide +kernel
theorem dL_law__562 : decode cL_law_ 562 = .ok (.lcmp, 1) := by decide +kernel
theorem dL_law__563 : decode cL_law_ 563 = .ok (.ifCond .eq 5, 3) := by decide +kernel
theorem dL_law__566 : decode cL_law_ 566 = .ok (.iconst 0, 1) := by decide +kernel
theorem dL_law__567 : decode cL_law_ 567 = .ok (.ireturn, 1) := by decide +kernel
theorem dL_law__568 : decode cL_law_ 568 = .ok (.goto 2950, 3) := by decide +kernel
theorem dL_law__571 : decode cL_law_ 571 = .ok (.aload_n 1, 1) := by decide +kernel
theorem dL_law__572 : decode cL_law_ 572 = .ok (.aload_n 0, 1) := by decide +kernel
theorem dL_law__573 : decode cL_law_ 573 = .ok (.iload 4, 2) := by decide +kernel
theorem dL_law__575 : decode cL_law_ 575 = .ok (.iconst 1, 1) := by decide +kernel
theorem dL_law__576 : decode cL_law_ 576 = .ok (.iadd, 1) := by decide +kernel
theorem dL_law__577 : decode cL_law_ 577 = .ok (.iaload, 1) := by decide +kernel
theorem dL_law__578 : decode cL_law_ 578 = .ok (.aload_n 0, 1) := by decide +kernel
theorem dL_law__579 : decode cL_law_ 579 = .ok (.iload 4, 2) := by decide +kernel
theorem dL_law__581 : decode cL_law_ 581 = .ok (.iconst 2, 1) := by decide +kernel
theorem dL_law__582 : decode cL_law_ 582 = .ok (.iadd, 1) := by decide +kernel
theorem dL_law__583 : decode cL_law_ 583 = .ok (.iaload, 1) := by decide +kernel
theorem dL_law__584 : decode cL_law_ 584 = .ok (.aload_n 3, 1) := by decide +kernel
theorem dL_law__585 : decode cL_law_ 585 = .ok (.invokestatic 180, 3) := by decide +kernel
theorem dL_law__588 : decode cL_law_ 588 = .ok (.istore 5, 2) := by decide +kernel
theorem dL_law__590 : decode cL_law_ 590 = .ok (.aload_n 2, 1) := by decide +kernel
theorem dL_law__591 : decode cL_law_ 591 = .ok (.aload_n 0, 1) := by decide +kernel
theorem dL_law__592 : decode cL_law_ 592 = .ok (.iload 4, 2) := by decide +kernel
theorem dL_law__594 : decode cL_law_ 594 = .ok (.iconst 1, 1) := by decide +kernel
theorem dL_law__595 : decode cL_law_ 595 = .ok (.iadd, 1) := by decide +kernel
theorem dL_law__596 : decode cL_law_ 596 = .ok (.iaload, 1) := by decide +kernel
theorem dL_law__597 : decode cL_law_ 597 = .ok (.aload_n 0, 1) := by decide +kernel
theorem dL_law__598 : decode cL_law_ 598 = .ok (.iload 4, 2) := by decide +kernel
theorem dL_law__600 : decode cL_law_ 600 = .ok (.iconst 2, 1) := by decide +kernel
theorem dL_law__601 : decode cL_law_ 601 = .ok (.iadd, 1) := by decide +kernel
theorem dL_law__602 : decode cL_law_ 602 = .ok (.iaload, 1) := by decide +kernel
theorem dL_law__603 : decode cL_law_ 603 = .ok (.invokevirtual 182, 3) := by decide +kernel
theorem dL_law__606 : decode cL_law_ 606 = .ok (.istore 6, 2) := by decide +kernel
theorem dL_law__608 : decode cL_law_ 608 = .ok (.aload_n 2, 1) := by decide +kernel
theorem dL_law__609 : decode cL_law_ 609 = .ok (.invokevirtual 166, 3) := by decide +kernel
theorem dL_law__612 : decode cL_law_ 612 = .ok (.iload 5, 2) := by decide +kernel
theorem dL_law__614 : decode cL_law_ 614 = .ok (.if_icmp .eq 5, 3) := by decide +kernel
theorem dL_law__617 : decode cL_law_ 617 = .ok (.iconst 0, 1) := by decide +kernel
theorem dL_law__618 : decode cL_law_ 618 = .ok (.ireturn, 1) := by decide +kernel
theorem dL_law__619 : decode cL_law_ 619 = .ok (.iload 5, 2) := by decide +kernel
theorem dL_law__621 : decode cL_law_ 621 = .ok (.ifCond .ne 15, 3) := by decide +kernel
theorem dL_law__624 : decode cL_law_ 624 = .ok (.aload_n 3, 1) := by decide +kernel
theorem dL_law__625 : decode cL_law_ 625 = .ok (.iconst 0, 1) := by decide +kernel
theorem dL_law__626 : decode cL_law_ 626 = .ok (.laload, 1) := by decide +kernel
theorem dL_law__627 : decode cL_law_ 627 = .ok (.iload 6, 2) := by decide +kernel
theorem dL_law__629 : decode cL_law_ 629 = .ok (.i2l, 1) := by decide +kernel
theorem dL_law__630 : decode cL_law_ 630 = .ok (.lcmp, 1) := by decide +kernel
theorem dL_law__631 : decode cL_law_ 631 = .ok (.ifCond .eq 5, 3) := by decide +kernel
theorem dL_law__634 : decode cL_law_ 634 = .ok (.iconst 0, 1) := by decide +kernel
theorem dL_law__635 : decode cL_law_ 635 = .ok (.ireturn, 1) := by decide +kernel
theorem dL_law__636 : decode cL_law_ 636 = .ok (.goto 2882, 3) := by decide +kernel
theorem dL_law__639 : decode cL_law_ 639 = .ok (.aload_n 1, 1) := by decide +kernel
theorem dL_law__640 : decode cL_law_ 640 = .ok (.aload_n 0, 1) := by decide +kernel
theorem dL_law__641 : decode cL_law_ 641 = .ok (.iload 4, 2) := by decide +kernel
theorem dL_law__643 : decode cL_law_ 643 = .ok (.iconst 1, 1) := by decide +kernel
theorem dL_law__644 : decode cL_law_ 644 = .ok (.iadd, 1) := by decide +kernel
theorem dL_law__645 : decode cL_law_ 645 = .ok (.iaload, 1) := by decide +kernel
theorem dL_law__646 : decode cL_law_ 646 = .ok (.aload_n 0, 1) := by decide +kernel
theorem dL_law__647 : decode cL_law_ 647 = .ok (.iload 4, 2) := by decide +kernel
theorem dL_law__649 : decode cL_law_ 649 = .ok (.iconst 2, 1) := by decide +kernel
theorem dL_law__650 : decode cL_law_ 650 = .ok (.iadd, 1) := by decide +kernel
theorem dL_law__651 : decode cL_law_ 651 = .ok (.iaload, 1) := by decide +kernel
theorem dL_law__652 : decode cL_law_ 652 = .ok (.aload_n 0, 1) := by decide +kernel
theorem dL_law__653 : decode cL_law_ 653 = .ok (.iload 4, 2) := by decide +kernel
theorem dL_law__655 : decode cL_law_ 655 = .ok (.iconst 3, 1) := by decide +kernel
theorem dL_law__656 : decode cL_law_ 656 = .ok (.iadd, 1) := by decide +kernel
theorem dL_law__657 : decode cL_law_ 657 = .ok (.iaload, 1) := by decide +kernel
theorem dL_law__658 : decode cL_law_ 658 = .ok (.ifCond .eq 7, 3) := by decide +kernel
theorem dL_law__661 : decode cL_law_ 661 = .ok (.iconst 1, 1) := by decide +kernel
theorem dL_law__662 : decode cL_law_ 662 = .ok (.goto 4, 3) := by decide +kernel
theorem dL_law__665 : decode cL_law_ 665 = .ok (.iconst 0, 1) := by decide +kernel
theorem dL_law__666 : decode cL_law_ 666 = .ok (.aload_n 3, 1) := by decide +kernel
theorem dL_law__667 : decode cL_law_ 667 = .ok (.invokestatic 183, 3) := by decide +kernel
theorem dL_law__670 : decode cL_law_ 670 = .ok (.istore 5, 2) := by decide +kernel
theorem dL_law__672 : decode cL_law_ 672 = .ok (.aload_n 2, 1) := by decide +kernel
theorem dL_law__673 : decode cL_law_ 673 = .ok (.aload_n 0, 1) := by decide +kernel
theorem dL_law__674 : decode cL_law_ 674 = .ok (.iload 4, 2) := by decide +kernel
theorem dL_law__676 : decode cL_law_ 676 = .ok (.iconst 1, 1) := by decide +kernel
theorem dL_law__677 : decode cL_law_ 677 = .ok (.iadd, 1) := by decide +kernel
theorem dL_law__678 : decode cL_law_ 678 = .ok (.iaload, 1) := by decide +kernel
theorem dL_law__679 : decode cL_law_ 679 = .ok (.aload_n 0, 1) := by decide +kernel
theorem dL_law__680 : decode cL_law_ 680 = .ok (.iload 4, 2) := by decide +kernel
theorem dL_law__682 : decode cL_law_ 682 = .ok (.iconst 2, 1) := by decide +kernel
theorem dL_law__683 : decode cL_law_ 683 = .ok (.iadd, 1) := by decide +kernel
theorem dL_law__684 : decode cL_law_ 684 = .ok (.iaload, 1) := by decide +kernel
theorem dL_law__685 : decode cL_law_ 685 = .ok (.aload_n 0, 1) := by decide +kernel
theorem dL_law__686 : decode cL_law_ 686 = .ok (.iload 4, 2) := by decide +kernel
theorem dL_law__688 : decode cL_law_ 688 = .ok (.iconst 3, 1) := by decide +kernel
theorem dL_law__689 : decode cL_law_ 689 = .ok (.iadd, 1) := by decide +kernel
theorem dL_law__690 : decode cL_law_ 690 = .ok (.iaload, 1) := by decide +kernel
theorem dL_law__691 : decode cL_law_ 691 = .ok (.ifCond .eq 7, 3) := by decide +kernel
theorem dL_law__694 : decode cL_law_ 694 = .ok (.iconst 1, 1) := by decide +kernel
theorem dL_law__695 : decode cL_law_ 695 = .ok (.goto 4, 3) := by decide +kernel
theorem dL_law__698 : decode cL_law_ 698 = .ok (.iconst 0, 1) := by decide +kernel
theorem dL_law__699 : decode cL_law_ 699 = .ok (.invokevirtual 186, 3) := by decide +kernel
theorem dL_law__702 : decode cL_law_ 702 = .ok (.istore 6, 2) := by decide +kernel
theorem dL_law__704 : decode cL_law_ 704 = .ok (.aload_n 2, 1) := by decide +kernel
theorem dL_law__705 : decode cL_law_ 705 = .ok (.invokevirtual 166, 3) := by decide +kernel
theorem dL_law__708 : decode cL_law_ 708 = .ok (.iload 5, 2) := by decide +kernel
theorem dL_law__710 : decode cL_law_ 710 = .ok (.if_icmp .eq 5, 3) := by decide +kernel
theorem dL_law__713 : decode cL_law_ 713 = .ok (.iconst 0, 1) := by decide +kernel
theorem dL_law__714 : decode cL_law_ 714 = .ok (.ireturn, 1) := by decide +kernel
theorem dL_law__715 : decode cL_law_ 715 = .ok (.iload 5, 2) := by decide +kernel
theorem dL_law__717 : decode cL_law_ 717 = .ok (.ifCond .ne 15, 3) := by decide +kernel
theorem dL_law__720 : decode cL_law_ 720 = .ok (.aload_n 3, 1) := by decide +kernel
