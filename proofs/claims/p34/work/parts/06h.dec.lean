theorem dL_law_3434 : decode cL_law 3434 = .ok (.iconst 3, 1) := by decide +kernel
theorem dL_law_3435 : decode cL_law 3435 = .ok (.iadd, 1) := by decide +kernel
theorem dL_law_3436 : decode cL_law 3436 = .ok (.iaload, 1) := by decide +kernel
theorem dL_law_3437 : decode cL_law 3437 = .ok (.ifCond .lt 14, 3) := by decide +kernel
theorem dL_law_3440 : decode cL_law 3440 = .ok (.iload 36, 2) := by decide +kernel
theorem dL_law_3442 : decode cL_law 3442 = .ok (.bipush 70, 2) := by decide +kernel
theorem dL_law_3444 : decode cL_law 3444 = .ok (.imul, 1) := by decide +kernel
theorem dL_law_3445 : decode cL_law 3445 = .ok (.bipush 100, 2) := by decide +kernel
theorem dL_law_3447 : decode cL_law 3447 = .ok (.idiv, 1) := by decide +kernel
theorem dL_law_3448 : decode cL_law 3448 = .ok (.goto 25, 3) := by decide +kernel
theorem dL_law_3451 : decode cL_law 3451 = .ok (.aload_n 2, 1) := by decide +kernel
theorem dL_law_3452 : decode cL_law 3452 = .ok (.iload 35, 2) := by decide +kernel
theorem dL_law_3454 : decode cL_law 3454 = .ok (.invokestatic 164, 3) := by decide +kernel
theorem dL_law_3457 : decode cL_law 3457 = .ok (.ifCond .eq 14, 3) := by decide +kernel
theorem dL_law_3460 : decode cL_law 3460 = .ok (.iload 36, 2) := by decide +kernel
theorem dL_law_3462 : decode cL_law 3462 = .ok (.bipush 90, 2) := by decide +kernel
theorem dL_law_3464 : decode cL_law 3464 = .ok (.imul, 1) := by decide +kernel
theorem dL_law_3465 : decode cL_law 3465 = .ok (.bipush 100, 2) := by decide +kernel
theorem dL_law_3467 : decode cL_law 3467 = .ok (.idiv, 1) := by decide +kernel
theorem dL_law_3468 : decode cL_law 3468 = .ok (.goto 5, 3) := by decide +kernel
theorem dL_law_3471 : decode cL_law 3471 = .ok (.iload 36, 2) := by decide +kernel
theorem dL_law_3473 : decode cL_law 3473 = .ok (.if_icmp .ne 7, 3) := by decide +kernel
theorem dL_law_3476 : decode cL_law 3476 = .ok (.iconst 1, 1) := by decide +kernel
theorem dL_law_3477 : decode cL_law 3477 = .ok (.goto 4, 3) := by decide +kernel
theorem dL_law_3480 : decode cL_law 3480 = .ok (.iconst 0, 1) := by decide +kernel
theorem dL_law_3481 : decode cL_law 3481 = .ok (.istore 23, 2) := by decide +kernel
theorem dL_law_3483 : decode cL_law 3483 = .ok (.iinc 35 1, 3) := by decide +kernel
theorem dL_law_3486 : decode cL_law 3486 = .ok (.goto (-221), 3) := by decide +kernel
theorem dL_law_3489 : decode cL_law 3489 = .ok (.iload 23, 2) := by decide +kernel
theorem dL_law_3491 : decode cL_law 3491 = .ok (.ifCond .eq 68, 3) := by decide +kernel
theorem dL_law_3494 : decode cL_law 3494 = .ok (.aload_n 1, 1) := by decide +kernel
theorem dL_law_3495 : decode cL_law 3495 = .ok (.iconst 0, 1) := by decide +kernel
theorem dL_law_3496 : decode cL_law 3496 = .ok (.invokevirtual 168, 3) := by decide +kernel
theorem dL_law_3499 : decode cL_law 3499 = .ok (.lload 31, 2) := by decide +kernel
theorem dL_law_3501 : decode cL_law 3501 = .ok (.lcmp, 1) := by decide +kernel
theorem dL_law_3502 : decode cL_law 3502 = .ok (.ifCond .ne 57, 3) := by decide +kernel
theorem dL_law_3505 : decode cL_law 3505 = .ok (.aload_n 1, 1) := by decide +kernel
theorem dL_law_3506 : decode cL_law 3506 = .ok (.iconst 1, 1) := by decide +kernel
theorem dL_law_3507 : decode cL_law 3507 = .ok (.invokevirtual 168, 3) := by decide +kernel
theorem dL_law_3510 : decode cL_law 3510 = .ok (.lload 33, 2) := by decide +kernel
theorem dL_law_3512 : decode cL_law 3512 = .ok (.lcmp, 1) := by decide +kernel
theorem dL_law_3513 : decode cL_law 3513 = .ok (.ifCond .ne 46, 3) := by decide +kernel
theorem dL_law_3516 : decode cL_law 3516 = .ok (.aload_n 1, 1) := by decide +kernel
theorem dL_law_3517 : decode cL_law 3517 = .ok (.iconst 2, 1) := by decide +kernel
theorem dL_law_3518 : decode cL_law 3518 = .ok (.invokevirtual 168, 3) := by decide +kernel
theorem dL_law_3521 : decode cL_law 3521 = .ok (.aload 15, 2) := by decide +kernel
theorem dL_law_3523 : decode cL_law 3523 = .ok (.bipush 24, 2) := by decide +kernel
theorem dL_law_3525 : decode cL_law 3525 = .ok (.laload, 1) := by decide +kernel
theorem dL_law_3526 : decode cL_law 3526 = .ok (.lcmp, 1) := by decide +kernel
theorem dL_law_3527 : decode cL_law 3527 = .ok (.ifCond .ne 32, 3) := by decide +kernel
theorem dL_law_3530 : decode cL_law 3530 = .ok (.aload_n 1, 1) := by decide +kernel
theorem dL_law_3531 : decode cL_law 3531 = .ok (.iconst 3, 1) := by decide +kernel
theorem dL_law_3532 : decode cL_law 3532 = .ok (.invokevirtual 168, 3) := by decide +kernel
theorem dL_law_3535 : decode cL_law 3535 = .ok (.lload 20, 2) := by decide +kernel
theorem dL_law_3537 : decode cL_law 3537 = .ok (.lcmp, 1) := by decide +kernel
theorem dL_law_3538 : decode cL_law 3538 = .ok (.ifCond .ne 21, 3) := by decide +kernel
theorem dL_law_3541 : decode cL_law 3541 = .ok (.aload_n 1, 1) := by decide +kernel
theorem dL_law_3542 : decode cL_law 3542 = .ok (.iconst 4, 1) := by decide +kernel
theorem dL_law_3543 : decode cL_law 3543 = .ok (.invokevirtual 168, 3) := by decide +kernel
theorem dL_law_3546 : decode cL_law 3546 = .ok (.aload 15, 2) := by decide +kernel
theorem dL_law_3548 : decode cL_law 3548 = .ok (.bipush 25, 2) := by decide +kernel
theorem dL_law_3550 : decode cL_law 3550 = .ok (.laload, 1) := by decide +kernel
theorem dL_law_3551 : decode cL_law 3551 = .ok (.lcmp, 1) := by decide +kernel
theorem dL_law_3552 : decode cL_law 3552 = .ok (.ifCond .ne 7, 3) := by decide +kernel
theorem dL_law_3555 : decode cL_law 3555 = .ok (.iconst 1, 1) := by decide +kernel
theorem dL_law_3556 : decode cL_law 3556 = .ok (.goto 4, 3) := by decide +kernel
theorem dL_law_3559 : decode cL_law 3559 = .ok (.iconst 0, 1) := by decide +kernel
theorem dL_law_3560 : decode cL_law 3560 = .ok (.istore 23, 2) := by decide +kernel
theorem dL_law_3562 : decode cL_law 3562 = .ok (.iinc 24 1, 3) := by decide +kernel
theorem dL_law_3565 : decode cL_law 3565 = .ok (.goto (-3115), 3) := by decide +kernel
theorem dL_law_3568 : decode cL_law 3568 = .ok (.iload 23, 2) := by decide +kernel
theorem dL_law_3570 : decode cL_law 3570 = .ok (.ireturn, 1) := by decide +kernel
theorem dL_beside_0 : decode cL_beside 0 = .ok (.iload_n 1, 1) := by decide +kernel
theorem dL_beside_1 : decode cL_beside 1 = .ok (.ifCond .ne 25, 3) := by decide +kernel
theorem dL_beside_4 : decode cL_beside 4 = .ok (.aload_n 0, 1) := by decide +kernel
theorem dL_beside_5 : decode cL_beside 5 = .ok (.bipush 11, 2) := by decide +kernel
theorem dL_beside_7 : decode cL_beside 7 = .ok (.iaload, 1) := by decide +kernel
theorem dL_beside_8 : decode cL_beside 8 = .ok (.ifCond .ge 10, 3) := by decide +kernel
theorem dL_beside_11 : decode cL_beside 11 = .ok (.aload_n 0, 1) := by decide +kernel
theorem dL_beside_12 : decode cL_beside 12 = .ok (.bipush 19, 2) := by decide +kernel
theorem dL_beside_14 : decode cL_beside 14 = .ok (.iaload, 1) := by decide +kernel
theorem dL_beside_15 : decode cL_beside 15 = .ok (.ifCond .lt 7, 3) := by decide +kernel
theorem dL_beside_18 : decode cL_beside 18 = .ok (.iconst 1, 1) := by decide +kernel
theorem dL_beside_19 : decode cL_beside 19 = .ok (.goto 23, 3) := by decide +kernel
theorem dL_beside_22 : decode cL_beside 22 = .ok (.iconst 0, 1) := by decide +kernel
theorem dL_beside_23 : decode cL_beside 23 = .ok (.goto 19, 3) := by decide +kernel
theorem dL_beside_26 : decode cL_beside 26 = .ok (.iload_n 1, 1) := by decide +kernel
theorem dL_beside_27 : decode cL_beside 27 = .ok (.iconst 3, 1) := by decide +kernel
theorem dL_beside_28 : decode cL_beside 28 = .ok (.if_icmp .ge 13, 3) := by decide +kernel
theorem dL_beside_31 : decode cL_beside 31 = .ok (.aload_n 0, 1) := by decide +kernel
theorem dL_beside_32 : decode cL_beside 32 = .ok (.iconst 3, 1) := by decide +kernel
theorem dL_beside_33 : decode cL_beside 33 = .ok (.iaload, 1) := by decide +kernel
theorem dL_beside_34 : decode cL_beside 34 = .ok (.ifCond .lt 7, 3) := by decide +kernel
theorem dL_beside_37 : decode cL_beside 37 = .ok (.iconst 1, 1) := by decide +kernel
theorem dL_beside_38 : decode cL_beside 38 = .ok (.goto 4, 3) := by decide +kernel
theorem dL_beside_41 : decode cL_beside 41 = .ok (.iconst 0, 1) := by decide +kernel
theorem dL_beside_42 : decode cL_beside 42 = .ok (.ireturn, 1) := by decide +kernel
