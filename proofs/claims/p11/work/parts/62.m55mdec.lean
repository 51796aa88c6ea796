theorem d_MM_decode_415 : decode b_MM_decode 415 = .ok (.iload 5, 2) := by decide +kernel
theorem d_MM_decode_417 : decode b_MM_decode 417 = .ok (.sipush 194, 3) := by decide +kernel
theorem d_MM_decode_420 : decode b_MM_decode 420 = .ok (.if_icmp .lt 15, 3) := by decide +kernel
theorem d_MM_decode_423 : decode b_MM_decode 423 = .ok (.iload 5, 2) := by decide +kernel
theorem d_MM_decode_425 : decode b_MM_decode 425 = .ok (.sipush 224, 3) := by decide +kernel
theorem d_MM_decode_428 : decode b_MM_decode 428 = .ok (.if_icmp .ge 7, 3) := by decide +kernel
theorem d_MM_decode_431 : decode b_MM_decode 431 = .ok (.iconst 1, 1) := by decide +kernel
theorem d_MM_decode_432 : decode b_MM_decode 432 = .ok (.goto 44, 3) := by decide +kernel
theorem d_MM_decode_435 : decode b_MM_decode 435 = .ok (.iload 5, 2) := by decide +kernel
theorem d_MM_decode_437 : decode b_MM_decode 437 = .ok (.sipush 224, 3) := by decide +kernel
theorem d_MM_decode_440 : decode b_MM_decode 440 = .ok (.if_icmp .lt 15, 3) := by decide +kernel
theorem d_MM_decode_443 : decode b_MM_decode 443 = .ok (.iload 5, 2) := by decide +kernel
theorem d_MM_decode_445 : decode b_MM_decode 445 = .ok (.sipush 240, 3) := by decide +kernel
theorem d_MM_decode_448 : decode b_MM_decode 448 = .ok (.if_icmp .ge 7, 3) := by decide +kernel
theorem d_MM_decode_451 : decode b_MM_decode 451 = .ok (.iconst 2, 1) := by decide +kernel
theorem d_MM_decode_452 : decode b_MM_decode 452 = .ok (.goto 24, 3) := by decide +kernel
theorem d_MM_decode_455 : decode b_MM_decode 455 = .ok (.iload 5, 2) := by decide +kernel
theorem d_MM_decode_457 : decode b_MM_decode 457 = .ok (.sipush 240, 3) := by decide +kernel
theorem d_MM_decode_460 : decode b_MM_decode 460 = .ok (.if_icmp .lt 15, 3) := by decide +kernel
theorem d_MM_decode_463 : decode b_MM_decode 463 = .ok (.iload 5, 2) := by decide +kernel
theorem d_MM_decode_465 : decode b_MM_decode 465 = .ok (.sipush 245, 3) := by decide +kernel
theorem d_MM_decode_468 : decode b_MM_decode 468 = .ok (.if_icmp .ge 7, 3) := by decide +kernel
theorem d_MM_decode_471 : decode b_MM_decode 471 = .ok (.iconst 3, 1) := by decide +kernel
theorem d_MM_decode_472 : decode b_MM_decode 472 = .ok (.goto 4, 3) := by decide +kernel
theorem d_MM_decode_475 : decode b_MM_decode 475 = .ok (.iconst (-1), 1) := by decide +kernel
theorem d_MM_decode_476 : decode b_MM_decode 476 = .ok (.istore 6, 2) := by decide +kernel
theorem d_MM_decode_478 : decode b_MM_decode 478 = .ok (.iload 6, 2) := by decide +kernel
theorem d_MM_decode_480 : decode b_MM_decode 480 = .ok (.ifCond .lt 12, 3) := by decide +kernel
theorem d_MM_decode_483 : decode b_MM_decode 483 = .ok (.iload 4, 2) := by decide +kernel
theorem d_MM_decode_485 : decode b_MM_decode 485 = .ok (.iload 6, 2) := by decide +kernel
theorem d_MM_decode_487 : decode b_MM_decode 487 = .ok (.iadd, 1) := by decide +kernel
theorem d_MM_decode_488 : decode b_MM_decode 488 = .ok (.iload_n 3, 1) := by decide +kernel
theorem d_MM_decode_489 : decode b_MM_decode 489 = .ok (.if_icmp .lt 5, 3) := by decide +kernel
theorem d_MM_decode_492 : decode b_MM_decode 492 = .ok (.iconst 0, 1) := by decide +kernel
theorem d_MM_decode_493 : decode b_MM_decode 493 = .ok (.ireturn, 1) := by decide +kernel
theorem d_MM_decode_494 : decode b_MM_decode 494 = .ok (.iload 6, 2) := by decide +kernel
theorem d_MM_decode_496 : decode b_MM_decode 496 = .ok (.ifCond .ne 8, 3) := by decide +kernel
theorem d_MM_decode_499 : decode b_MM_decode 499 = .ok (.iload 5, 2) := by decide +kernel
theorem d_MM_decode_501 : decode b_MM_decode 501 = .ok (.goto 36, 3) := by decide +kernel
theorem d_MM_decode_504 : decode b_MM_decode 504 = .ok (.iload 6, 2) := by decide +kernel
theorem d_MM_decode_506 : decode b_MM_decode 506 = .ok (.iconst 1, 1) := by decide +kernel
theorem d_MM_decode_507 : decode b_MM_decode 507 = .ok (.if_icmp .ne 11, 3) := by decide +kernel
theorem d_MM_decode_510 : decode b_MM_decode 510 = .ok (.iload 5, 2) := by decide +kernel
theorem d_MM_decode_512 : decode b_MM_decode 512 = .ok (.bipush 31, 2) := by decide +kernel
theorem d_MM_decode_514 : decode b_MM_decode 514 = .ok (.iand, 1) := by decide +kernel
theorem d_MM_decode_515 : decode b_MM_decode 515 = .ok (.goto 22, 3) := by decide +kernel
theorem d_MM_decode_518 : decode b_MM_decode 518 = .ok (.iload 6, 2) := by decide +kernel
theorem d_MM_decode_520 : decode b_MM_decode 520 = .ok (.iconst 2, 1) := by decide +kernel
theorem d_MM_decode_521 : decode b_MM_decode 521 = .ok (.if_icmp .ne 11, 3) := by decide +kernel
theorem d_MM_decode_524 : decode b_MM_decode 524 = .ok (.iload 5, 2) := by decide +kernel
theorem d_MM_decode_526 : decode b_MM_decode 526 = .ok (.bipush 15, 2) := by decide +kernel
theorem d_MM_decode_528 : decode b_MM_decode 528 = .ok (.iand, 1) := by decide +kernel
theorem d_MM_decode_529 : decode b_MM_decode 529 = .ok (.goto 8, 3) := by decide +kernel
theorem d_MM_decode_532 : decode b_MM_decode 532 = .ok (.iload 5, 2) := by decide +kernel
theorem d_MM_decode_534 : decode b_MM_decode 534 = .ok (.bipush 7, 2) := by decide +kernel
theorem d_MM_decode_536 : decode b_MM_decode 536 = .ok (.iand, 1) := by decide +kernel
theorem d_MM_decode_537 : decode b_MM_decode 537 = .ok (.istore 7, 2) := by decide +kernel
theorem d_MM_decode_539 : decode b_MM_decode 539 = .ok (.iconst 1, 1) := by decide +kernel
theorem d_MM_decode_540 : decode b_MM_decode 540 = .ok (.istore 8, 2) := by decide +kernel
theorem d_MM_decode_542 : decode b_MM_decode 542 = .ok (.iload 8, 2) := by decide +kernel
theorem d_MM_decode_544 : decode b_MM_decode 544 = .ok (.iload 6, 2) := by decide +kernel
theorem d_MM_decode_546 : decode b_MM_decode 546 = .ok (.if_icmp .gt 52, 3) := by decide +kernel
theorem d_MM_decode_549 : decode b_MM_decode 549 = .ok (.aload_n 0, 1) := by decide +kernel
theorem d_MM_decode_550 : decode b_MM_decode 550 = .ok (.getfield 218, 3) := by decide +kernel
theorem d_MM_decode_553 : decode b_MM_decode 553 = .ok (.iload 4, 2) := by decide +kernel
theorem d_MM_decode_555 : decode b_MM_decode 555 = .ok (.iload 8, 2) := by decide +kernel
theorem d_MM_decode_557 : decode b_MM_decode 557 = .ok (.iadd, 1) := by decide +kernel
theorem d_MM_decode_558 : decode b_MM_decode 558 = .ok (.iaload, 1) := by decide +kernel
theorem d_MM_decode_559 : decode b_MM_decode 559 = .ok (.sipush 192, 3) := by decide +kernel
theorem d_MM_decode_562 : decode b_MM_decode 562 = .ok (.iand, 1) := by decide +kernel
theorem d_MM_decode_563 : decode b_MM_decode 563 = .ok (.sipush 128, 3) := by decide +kernel
theorem d_MM_decode_566 : decode b_MM_decode 566 = .ok (.if_icmp .eq 5, 3) := by decide +kernel
theorem d_MM_decode_569 : decode b_MM_decode 569 = .ok (.iconst 0, 1) := by decide +kernel
theorem d_MM_decode_570 : decode b_MM_decode 570 = .ok (.ireturn, 1) := by decide +kernel
theorem d_MM_decode_571 : decode b_MM_decode 571 = .ok (.iload 7, 2) := by decide +kernel
theorem d_MM_decode_573 : decode b_MM_decode 573 = .ok (.bipush 6, 2) := by decide +kernel
theorem d_MM_decode_575 : decode b_MM_decode 575 = .ok (.ishl, 1) := by decide +kernel
theorem d_MM_decode_576 : decode b_MM_decode 576 = .ok (.aload_n 0, 1) := by decide +kernel
theorem d_MM_decode_577 : decode b_MM_decode 577 = .ok (.getfield 218, 3) := by decide +kernel
theorem d_MM_decode_580 : decode b_MM_decode 580 = .ok (.iload 4, 2) := by decide +kernel
theorem d_MM_decode_582 : decode b_MM_decode 582 = .ok (.iload 8, 2) := by decide +kernel
theorem d_MM_decode_584 : decode b_MM_decode 584 = .ok (.iadd, 1) := by decide +kernel
theorem d_MM_decode_585 : decode b_MM_decode 585 = .ok (.iaload, 1) := by decide +kernel
theorem d_MM_decode_586 : decode b_MM_decode 586 = .ok (.bipush 63, 2) := by decide +kernel
theorem d_MM_decode_588 : decode b_MM_decode 588 = .ok (.iand, 1) := by decide +kernel
theorem d_MM_decode_589 : decode b_MM_decode 589 = .ok (.ior, 1) := by decide +kernel
theorem d_MM_decode_590 : decode b_MM_decode 590 = .ok (.istore 7, 2) := by decide +kernel
theorem d_MM_decode_592 : decode b_MM_decode 592 = .ok (.iinc 8 1, 3) := by decide +kernel
theorem d_MM_decode_595 : decode b_MM_decode 595 = .ok (.goto (-53), 3) := by decide +kernel
theorem d_MM_decode_598 : decode b_MM_decode 598 = .ok (.iload 6, 2) := by decide +kernel
theorem d_MM_decode_600 : decode b_MM_decode 600 = .ok (.iconst 2, 1) := by decide +kernel
theorem d_MM_decode_601 : decode b_MM_decode 601 = .ok (.if_icmp .ne 25, 3) := by decide +kernel
theorem d_MM_decode_604 : decode b_MM_decode 604 = .ok (.iload 7, 2) := by decide +kernel
theorem d_MM_decode_606 : decode b_MM_decode 606 = .ok (.sipush 2048, 3) := by decide +kernel
theorem d_MM_decode_609 : decode b_MM_decode 609 = .ok (.if_icmp .lt 37, 3) := by decide +kernel
theorem d_MM_decode_612 : decode b_MM_decode 612 = .ok (.iload 7, 2) := by decide +kernel
theorem d_MM_decode_614 : decode b_MM_decode 614 = .ok (.ldc_w 489, 3) := by decide +kernel
theorem d_MM_decode_617 : decode b_MM_decode 617 = .ok (.ldc_w 490, 3) := by decide +kernel
theorem d_MM_decode_620 : decode b_MM_decode 620 = .ok (.invokestatic 344, 3) := by decide +kernel
theorem d_MM_decode_623 : decode b_MM_decode 623 = .ok (.ifCond .ne 23, 3) := by decide +kernel
theorem d_MM_decode_626 : decode b_MM_decode 626 = .ok (.iload 6, 2) := by decide +kernel
theorem d_MM_decode_628 : decode b_MM_decode 628 = .ok (.iconst 3, 1) := by decide +kernel
theorem d_MM_decode_629 : decode b_MM_decode 629 = .ok (.if_icmp .ne 19, 3) := by decide +kernel
theorem d_MM_decode_632 : decode b_MM_decode 632 = .ok (.iload 7, 2) := by decide +kernel
theorem d_MM_decode_634 : decode b_MM_decode 634 = .ok (.ldc_w 488, 3) := by decide +kernel
theorem d_MM_decode_637 : decode b_MM_decode 637 = .ok (.ldc_w 358, 3) := by decide +kernel
theorem d_MM_decode_640 : decode b_MM_decode 640 = .ok (.invokestatic 344, 3) := by decide +kernel
theorem d_MM_decode_643 : decode b_MM_decode 643 = .ok (.ifCond .ne 5, 3) := by decide +kernel
theorem d_MM_decode_646 : decode b_MM_decode 646 = .ok (.iconst 0, 1) := by decide +kernel
theorem d_MM_decode_647 : decode b_MM_decode 647 = .ok (.ireturn, 1) := by decide +kernel
theorem d_MM_decode_648 : decode b_MM_decode 648 = .ok (.aload_n 0, 1) := by decide +kernel
theorem d_MM_decode_649 : decode b_MM_decode 649 = .ok (.getfield 206, 3) := by decide +kernel
theorem d_MM_decode_652 : decode b_MM_decode 652 = .ok (.aload_n 0, 1) := by decide +kernel
theorem d_MM_decode_653 : decode b_MM_decode 653 = .ok (.dup, 1) := by decide +kernel
theorem d_MM_decode_654 : decode b_MM_decode 654 = .ok (.getfield 482, 3) := by decide +kernel
theorem d_MM_decode_657 : decode b_MM_decode 657 = .ok (.dup_x1, 1) := by decide +kernel
theorem d_MM_decode_658 : decode b_MM_decode 658 = .ok (.iconst 1, 1) := by decide +kernel
theorem d_MM_decode_659 : decode b_MM_decode 659 = .ok (.iadd, 1) := by decide +kernel
theorem d_MM_decode_660 : decode b_MM_decode 660 = .ok (.putfield 482, 3) := by decide +kernel
theorem d_MM_decode_663 : decode b_MM_decode 663 = .ok (.iload 7, 2) := by decide +kernel
theorem d_MM_decode_665 : decode b_MM_decode 665 = .ok (.iastore, 1) := by decide +kernel
theorem d_MM_decode_666 : decode b_MM_decode 666 = .ok (.iload 4, 2) := by decide +kernel
theorem d_MM_decode_668 : decode b_MM_decode 668 = .ok (.iload 6, 2) := by decide +kernel
theorem d_MM_decode_670 : decode b_MM_decode 670 = .ok (.iadd, 1) := by decide +kernel
theorem d_MM_decode_671 : decode b_MM_decode 671 = .ok (.istore 4, 2) := by decide +kernel
theorem d_MM_decode_673 : decode b_MM_decode 673 = .ok (.iinc 4 1, 3) := by decide +kernel
theorem d_MM_decode_676 : decode b_MM_decode 676 = .ok (.goto (-288), 3) := by decide +kernel
theorem d_MM_decode_679 : decode b_MM_decode 679 = .ok (.iconst 1, 1) := by decide +kernel
theorem d_MM_decode_680 : decode b_MM_decode 680 = .ok (.ireturn, 1) := by decide +kernel
theorem d_MM_part_0 : decode b_MM_part 0 = .ok (.iconst 0, 1) := by decide +kernel
theorem d_MM_part_1 : decode b_MM_part 1 = .ok (.istore 4, 2) := by decide +kernel
theorem d_MM_part_3 : decode b_MM_part 3 = .ok (.iload_n 2, 1) := by decide +kernel
theorem d_MM_part_4 : decode b_MM_part 4 = .ok (.istore 5, 2) := by decide +kernel
theorem d_MM_part_6 : decode b_MM_part 6 = .ok (.iload 5, 2) := by decide +kernel
theorem d_MM_part_8 : decode b_MM_part 8 = .ok (.iload_n 3, 1) := by decide +kernel
theorem d_MM_part_9 : decode b_MM_part 9 = .ok (.if_icmp .ge 99, 3) := by decide +kernel
theorem d_MM_part_12 : decode b_MM_part 12 = .ok (.aload_n 0, 1) := by decide +kernel
theorem d_MM_part_13 : decode b_MM_part 13 = .ok (.getfield 206, 3) := by decide +kernel
theorem d_MM_part_16 : decode b_MM_part 16 = .ok (.iload 5, 2) := by decide +kernel
theorem d_MM_part_18 : decode b_MM_part 18 = .ok (.iaload, 1) := by decide +kernel
theorem d_MM_part_19 : decode b_MM_part 19 = .ok (.istore 6, 2) := by decide +kernel
theorem d_MM_part_21 : decode b_MM_part 21 = .ok (.iload 6, 2) := by decide +kernel
theorem d_MM_part_23 : decode b_MM_part 23 = .ok (.bipush 126, 2) := by decide +kernel
theorem d_MM_part_25 : decode b_MM_part 25 = .ok (.if_icmp .ne 65, 3) := by decide +kernel
theorem d_MM_part_28 : decode b_MM_part 28 = .ok (.iload 5, 2) := by decide +kernel
theorem d_MM_part_30 : decode b_MM_part 30 = .ok (.iconst 1, 1) := by decide +kernel
theorem d_MM_part_31 : decode b_MM_part 31 = .ok (.iadd, 1) := by decide +kernel
theorem d_MM_part_32 : decode b_MM_part 32 = .ok (.iload_n 3, 1) := by decide +kernel
theorem d_MM_part_33 : decode b_MM_part 33 = .ok (.if_icmp .eq 31, 3) := by decide +kernel
theorem d_MM_part_36 : decode b_MM_part 36 = .ok (.aload_n 0, 1) := by decide +kernel
theorem d_MM_part_37 : decode b_MM_part 37 = .ok (.getfield 206, 3) := by decide +kernel
theorem d_MM_part_40 : decode b_MM_part 40 = .ok (.iload 5, 2) := by decide +kernel
theorem d_MM_part_42 : decode b_MM_part 42 = .ok (.iconst 1, 1) := by decide +kernel
theorem d_MM_part_43 : decode b_MM_part 43 = .ok (.iadd, 1) := by decide +kernel
theorem d_MM_part_44 : decode b_MM_part 44 = .ok (.iaload, 1) := by decide +kernel
theorem d_MM_part_45 : decode b_MM_part 45 = .ok (.bipush 48, 2) := by decide +kernel
theorem d_MM_part_47 : decode b_MM_part 47 = .ok (.if_icmp .eq 19, 3) := by decide +kernel
theorem d_MM_part_50 : decode b_MM_part 50 = .ok (.aload_n 0, 1) := by decide +kernel
theorem d_MM_part_51 : decode b_MM_part 51 = .ok (.getfield 206, 3) := by decide +kernel
theorem d_MM_part_54 : decode b_MM_part 54 = .ok (.iload 5, 2) := by decide +kernel
theorem d_MM_part_56 : decode b_MM_part 56 = .ok (.iconst 1, 1) := by decide +kernel
theorem d_MM_part_57 : decode b_MM_part 57 = .ok (.iadd, 1) := by decide +kernel
theorem d_MM_part_58 : decode b_MM_part 58 = .ok (.iaload, 1) := by decide +kernel
theorem d_MM_part_59 : decode b_MM_part 59 = .ok (.bipush 49, 2) := by decide +kernel
theorem d_MM_part_61 : decode b_MM_part 61 = .ok (.if_icmp .eq 5, 3) := by decide +kernel
theorem d_MM_part_64 : decode b_MM_part 64 = .ok (.iconst (-1), 1) := by decide +kernel
theorem d_MM_part_65 : decode b_MM_part 65 = .ok (.ireturn, 1) := by decide +kernel
theorem d_MM_part_66 : decode b_MM_part 66 = .ok (.aload_n 0, 1) := by decide +kernel
theorem d_MM_part_67 : decode b_MM_part 67 = .ok (.getfield 206, 3) := by decide +kernel
theorem d_MM_part_70 : decode b_MM_part 70 = .ok (.iinc 5 1, 3) := by decide +kernel
theorem d_MM_part_73 : decode b_MM_part 73 = .ok (.iload 5, 2) := by decide +kernel
theorem d_MM_part_75 : decode b_MM_part 75 = .ok (.iaload, 1) := by decide +kernel
theorem d_MM_part_76 : decode b_MM_part 76 = .ok (.bipush 48, 2) := by decide +kernel
theorem d_MM_part_78 : decode b_MM_part 78 = .ok (.if_icmp .ne 8, 3) := by decide +kernel
theorem d_MM_part_81 : decode b_MM_part 81 = .ok (.bipush 126, 2) := by decide +kernel
theorem d_MM_part_83 : decode b_MM_part 83 = .ok (.goto 5, 3) := by decide +kernel
theorem d_MM_part_86 : decode b_MM_part 86 = .ok (.bipush 47, 2) := by decide +kernel
theorem d_MM_part_88 : decode b_MM_part 88 = .ok (.istore 6, 2) := by decide +kernel
theorem d_MM_part_90 : decode b_MM_part 90 = .ok (.aload_n 0, 1) := by decide +kernel
theorem d_MM_part_91 : decode b_MM_part 91 = .ok (.getfield 221, 3) := by decide +kernel
theorem d_MM_part_94 : decode b_MM_part 94 = .ok (.iload 4, 2) := by decide +kernel
theorem d_MM_part_96 : decode b_MM_part 96 = .ok (.iinc 4 1, 3) := by decide +kernel
theorem d_MM_part_99 : decode b_MM_part 99 = .ok (.iload 6, 2) := by decide +kernel
theorem d_MM_part_101 : decode b_MM_part 101 = .ok (.iastore, 1) := by decide +kernel
theorem d_MM_part_102 : decode b_MM_part 102 = .ok (.iinc 5 1, 3) := by decide +kernel
theorem d_MM_part_105 : decode b_MM_part 105 = .ok (.goto (-99), 3) := by decide +kernel
theorem d_MM_part_108 : decode b_MM_part 108 = .ok (.aload_n 0, 1) := by decide +kernel
theorem d_MM_part_109 : decode b_MM_part 109 = .ok (.getfield 20, 3) := by decide +kernel
theorem d_MM_part_112 : decode b_MM_part 112 = .ok (.getfield 419, 3) := by decide +kernel
theorem d_MM_part_115 : decode b_MM_part 115 = .ok (.iload_n 1, 1) := by decide +kernel
theorem d_MM_part_116 : decode b_MM_part 116 = .ok (.iaload, 1) := by decide +kernel
theorem d_MM_part_117 : decode b_MM_part 117 = .ok (.bipush 6, 2) := by decide +kernel
theorem d_MM_part_119 : decode b_MM_part 119 = .ok (.if_icmp .ne 137, 3) := by decide +kernel
theorem d_MM_part_122 : decode b_MM_part 122 = .ok (.aload_n 0, 1) := by decide +kernel
theorem d_MM_part_123 : decode b_MM_part 123 = .ok (.getfield 20, 3) := by decide +kernel
theorem d_MM_part_126 : decode b_MM_part 126 = .ok (.getfield 422, 3) := by decide +kernel
theorem d_MM_part_129 : decode b_MM_part 129 = .ok (.iload_n 1, 1) := by decide +kernel
theorem d_MM_part_130 : decode b_MM_part 130 = .ok (.iaload, 1) := by decide +kernel
theorem d_MM_part_131 : decode b_MM_part 131 = .ok (.istore 5, 2) := by decide +kernel
theorem d_MM_part_133 : decode b_MM_part 133 = .ok (.iload 5, 2) := by decide +kernel
theorem d_MM_part_135 : decode b_MM_part 135 = .ok (.ifCond .lt 119, 3) := by decide +kernel
theorem d_MM_part_138 : decode b_MM_part 138 = .ok (.aload_n 0, 1) := by decide +kernel
theorem d_MM_part_139 : decode b_MM_part 139 = .ok (.getfield 20, 3) := by decide +kernel
theorem d_MM_part_142 : decode b_MM_part 142 = .ok (.getfield 425, 3) := by decide +kernel
theorem d_MM_part_145 : decode b_MM_part 145 = .ok (.iload 5, 2) := by decide +kernel
theorem d_MM_part_147 : decode b_MM_part 147 = .ok (.iaload, 1) := by decide +kernel
theorem d_MM_part_148 : decode b_MM_part 148 = .ok (.istore 6, 2) := by decide +kernel
theorem d_MM_part_150 : decode b_MM_part 150 = .ok (.aload_n 0, 1) := by decide +kernel
theorem d_MM_part_151 : decode b_MM_part 151 = .ok (.getfield 20, 3) := by decide +kernel
theorem d_MM_part_154 : decode b_MM_part 154 = .ok (.getfield 272, 3) := by decide +kernel
theorem d_MM_part_157 : decode b_MM_part 157 = .ok (.iload 6, 2) := by decide +kernel
theorem d_MM_part_159 : decode b_MM_part 159 = .ok (.iaload, 1) := by decide +kernel
theorem d_MM_part_160 : decode b_MM_part 160 = .ok (.iload 4, 2) := by decide +kernel
theorem d_MM_part_162 : decode b_MM_part 162 = .ok (.if_icmp .ne 7, 3) := by decide +kernel
theorem d_MM_part_165 : decode b_MM_part 165 = .ok (.iconst 1, 1) := by decide +kernel
theorem d_MM_part_166 : decode b_MM_part 166 = .ok (.goto 4, 3) := by decide +kernel
theorem d_MM_part_169 : decode b_MM_part 169 = .ok (.iconst 0, 1) := by decide +kernel
theorem d_MM_part_170 : decode b_MM_part 170 = .ok (.istore 7, 2) := by decide +kernel
theorem d_MM_part_172 : decode b_MM_part 172 = .ok (.iconst 0, 1) := by decide +kernel
theorem d_MM_part_173 : decode b_MM_part 173 = .ok (.istore 8, 2) := by decide +kernel
theorem d_MM_part_175 : decode b_MM_part 175 = .ok (.iload 7, 2) := by decide +kernel
theorem d_MM_part_177 : decode b_MM_part 177 = .ok (.ifCond .eq 54, 3) := by decide +kernel
theorem d_MM_part_180 : decode b_MM_part 180 = .ok (.iload 8, 2) := by decide +kernel
theorem d_MM_part_182 : decode b_MM_part 182 = .ok (.iload 4, 2) := by decide +kernel
theorem d_MM_part_184 : decode b_MM_part 184 = .ok (.if_icmp .ge 47, 3) := by decide +kernel
theorem d_MM_part_187 : decode b_MM_part 187 = .ok (.aload_n 0, 1) := by decide +kernel
theorem d_MM_part_188 : decode b_MM_part 188 = .ok (.getfield 20, 3) := by decide +kernel
theorem d_MM_part_191 : decode b_MM_part 191 = .ok (.getfield 263, 3) := by decide +kernel
theorem d_MM_part_194 : decode b_MM_part 194 = .ok (.aload_n 0, 1) := by decide +kernel
theorem d_MM_part_195 : decode b_MM_part 195 = .ok (.getfield 20, 3) := by decide +kernel
theorem d_MM_part_198 : decode b_MM_part 198 = .ok (.getfield 269, 3) := by decide +kernel
theorem d_MM_part_201 : decode b_MM_part 201 = .ok (.iload 6, 2) := by decide +kernel
theorem d_MM_part_203 : decode b_MM_part 203 = .ok (.iaload, 1) := by decide +kernel
theorem d_MM_part_204 : decode b_MM_part 204 = .ok (.iload 8, 2) := by decide +kernel
theorem d_MM_part_206 : decode b_MM_part 206 = .ok (.iadd, 1) := by decide +kernel
theorem d_MM_part_207 : decode b_MM_part 207 = .ok (.iaload, 1) := by decide +kernel
theorem d_MM_part_208 : decode b_MM_part 208 = .ok (.aload_n 0, 1) := by decide +kernel
theorem d_MM_part_209 : decode b_MM_part 209 = .ok (.getfield 221, 3) := by decide +kernel
theorem d_MM_part_212 : decode b_MM_part 212 = .ok (.iload 8, 2) := by decide +kernel
theorem d_MM_part_214 : decode b_MM_part 214 = .ok (.iaload, 1) := by decide +kernel
theorem d_MM_part_215 : decode b_MM_part 215 = .ok (.if_icmp .ne 7, 3) := by decide +kernel
theorem d_MM_part_218 : decode b_MM_part 218 = .ok (.iconst 1, 1) := by decide +kernel
theorem d_MM_part_219 : decode b_MM_part 219 = .ok (.goto 4, 3) := by decide +kernel
theorem d_MM_part_222 : decode b_MM_part 222 = .ok (.iconst 0, 1) := by decide +kernel
theorem d_MM_part_223 : decode b_MM_part 223 = .ok (.istore 7, 2) := by decide +kernel
theorem d_MM_part_225 : decode b_MM_part 225 = .ok (.iinc 8 1, 3) := by decide +kernel
theorem d_MM_part_228 : decode b_MM_part 228 = .ok (.goto (-53), 3) := by decide +kernel
theorem d_MM_part_231 : decode b_MM_part 231 = .ok (.iload 7, 2) := by decide +kernel
theorem d_MM_part_233 : decode b_MM_part 233 = .ok (.ifCond .eq 6, 3) := by decide +kernel
theorem d_MM_part_236 : decode b_MM_part 236 = .ok (.iload 5, 2) := by decide +kernel
theorem d_MM_part_238 : decode b_MM_part 238 = .ok (.ireturn, 1) := by decide +kernel
theorem d_MM_part_239 : decode b_MM_part 239 = .ok (.aload_n 0, 1) := by decide +kernel
theorem d_MM_part_240 : decode b_MM_part 240 = .ok (.getfield 20, 3) := by decide +kernel
theorem d_MM_part_243 : decode b_MM_part 243 = .ok (.getfield 436, 3) := by decide +kernel
theorem d_MM_part_246 : decode b_MM_part 246 = .ok (.iload 5, 2) := by decide +kernel
theorem d_MM_part_248 : decode b_MM_part 248 = .ok (.iaload, 1) := by decide +kernel
theorem d_MM_part_249 : decode b_MM_part 249 = .ok (.istore 5, 2) := by decide +kernel
theorem d_MM_part_251 : decode b_MM_part 251 = .ok (.goto (-118), 3) := by decide +kernel
theorem d_MM_part_254 : decode b_MM_part 254 = .ok (.iconst (-1), 1) := by decide +kernel
theorem d_MM_part_255 : decode b_MM_part 255 = .ok (.ireturn, 1) := by decide +kernel
theorem d_MM_part_256 : decode b_MM_part 256 = .ok (.aload_n 0, 1) := by decide +kernel
theorem d_MM_part_257 : decode b_MM_part 257 = .ok (.getfield 20, 3) := by decide +kernel
theorem d_MM_part_260 : decode b_MM_part 260 = .ok (.getfield 419, 3) := by decide +kernel
theorem d_MM_part_263 : decode b_MM_part 263 = .ok (.iload_n 1, 1) := by decide +kernel
theorem d_MM_part_264 : decode b_MM_part 264 = .ok (.iaload, 1) := by decide +kernel
theorem d_MM_part_265 : decode b_MM_part 265 = .ok (.iconst 5, 1) := by decide +kernel
theorem d_MM_part_266 : decode b_MM_part 266 = .ok (.if_icmp .ne 31, 3) := by decide +kernel
theorem d_MM_part_269 : decode b_MM_part 269 = .ok (.iload 4, 2) := by decide +kernel
theorem d_MM_part_271 : decode b_MM_part 271 = .ok (.ifCond .eq 26, 3) := by decide +kernel
theorem d_MM_part_274 : decode b_MM_part 274 = .ok (.iload 4, 2) := by decide +kernel
theorem d_MM_part_276 : decode b_MM_part 276 = .ok (.iconst 1, 1) := by decide +kernel
theorem d_MM_part_277 : decode b_MM_part 277 = .ok (.if_icmp .le 14, 3) := by decide +kernel
theorem d_MM_part_280 : decode b_MM_part 280 = .ok (.aload_n 0, 1) := by decide +kernel
theorem d_MM_part_281 : decode b_MM_part 281 = .ok (.getfield 221, 3) := by decide +kernel
theorem d_MM_part_284 : decode b_MM_part 284 = .ok (.iconst 0, 1) := by decide +kernel
theorem d_MM_part_285 : decode b_MM_part 285 = .ok (.iaload, 1) := by decide +kernel
theorem d_MM_part_286 : decode b_MM_part 286 = .ok (.bipush 48, 2) := by decide +kernel
theorem d_MM_part_288 : decode b_MM_part 288 = .ok (.if_icmp .eq 9, 3) := by decide +kernel
theorem d_MM_part_291 : decode b_MM_part 291 = .ok (.iload 4, 2) := by decide +kernel
theorem d_MM_part_293 : decode b_MM_part 293 = .ok (.iconst 3, 1) := by decide +kernel
theorem d_MM_part_294 : decode b_MM_part 294 = .ok (.if_icmp .le 5, 3) := by decide +kernel
theorem d_MM_part_297 : decode b_MM_part 297 = .ok (.iconst (-1), 1) := by decide +kernel
theorem d_MM_part_298 : decode b_MM_part 298 = .ok (.ireturn, 1) := by decide +kernel
theorem d_MM_part_299 : decode b_MM_part 299 = .ok (.iconst 0, 1) := by decide +kernel
theorem d_MM_part_300 : decode b_MM_part 300 = .ok (.istore 5, 2) := by decide +kernel
theorem d_MM_part_302 : decode b_MM_part 302 = .ok (.iconst 0, 1) := by decide +kernel
theorem d_MM_part_303 : decode b_MM_part 303 = .ok (.istore 6, 2) := by decide +kernel
theorem d_MM_part_305 : decode b_MM_part 305 = .ok (.iload 6, 2) := by decide +kernel
theorem d_MM_part_307 : decode b_MM_part 307 = .ok (.iload 4, 2) := by decide +kernel
theorem d_MM_part_309 : decode b_MM_part 309 = .ok (.if_icmp .ge 46, 3) := by decide +kernel
theorem d_MM_part_312 : decode b_MM_part 312 = .ok (.aload_n 0, 1) := by decide +kernel
theorem d_MM_part_313 : decode b_MM_part 313 = .ok (.getfield 221, 3) := by decide +kernel
theorem d_MM_part_316 : decode b_MM_part 316 = .ok (.iload 6, 2) := by decide +kernel
theorem d_MM_part_318 : decode b_MM_part 318 = .ok (.iaload, 1) := by decide +kernel
theorem d_MM_part_319 : decode b_MM_part 319 = .ok (.bipush 48, 2) := by decide +kernel
theorem d_MM_part_321 : decode b_MM_part 321 = .ok (.bipush 57, 2) := by decide +kernel
theorem d_MM_part_323 : decode b_MM_part 323 = .ok (.invokestatic 344, 3) := by decide +kernel
theorem d_MM_part_326 : decode b_MM_part 326 = .ok (.ifCond .ne 5, 3) := by decide +kernel
theorem d_MM_part_329 : decode b_MM_part 329 = .ok (.iconst (-1), 1) := by decide +kernel
theorem d_MM_part_330 : decode b_MM_part 330 = .ok (.ireturn, 1) := by decide +kernel
theorem d_MM_part_331 : decode b_MM_part 331 = .ok (.bipush 10, 2) := by decide +kernel
theorem d_MM_part_333 : decode b_MM_part 333 = .ok (.iload 5, 2) := by decide +kernel
theorem d_MM_part_335 : decode b_MM_part 335 = .ok (.imul, 1) := by decide +kernel
theorem d_MM_part_336 : decode b_MM_part 336 = .ok (.aload_n 0, 1) := by decide +kernel
theorem d_MM_part_337 : decode b_MM_part 337 = .ok (.getfield 221, 3) := by decide +kernel
theorem d_MM_part_340 : decode b_MM_part 340 = .ok (.iload 6, 2) := by decide +kernel
theorem d_MM_part_342 : decode b_MM_part 342 = .ok (.iaload, 1) := by decide +kernel
theorem d_MM_part_343 : decode b_MM_part 343 = .ok (.iadd, 1) := by decide +kernel
theorem d_MM_part_344 : decode b_MM_part 344 = .ok (.bipush 48, 2) := by decide +kernel
theorem d_MM_part_346 : decode b_MM_part 346 = .ok (.isub, 1) := by decide +kernel
theorem d_MM_part_347 : decode b_MM_part 347 = .ok (.istore 5, 2) := by decide +kernel
theorem d_MM_part_349 : decode b_MM_part 349 = .ok (.iinc 6 1, 3) := by decide +kernel
theorem d_MM_part_352 : decode b_MM_part 352 = .ok (.goto (-47), 3) := by decide +kernel
theorem d_MM_part_355 : decode b_MM_part 355 = .ok (.aload_n 0, 1) := by decide +kernel
theorem d_MM_part_356 : decode b_MM_part 356 = .ok (.getfield 20, 3) := by decide +kernel
theorem d_MM_part_359 : decode b_MM_part 359 = .ok (.getfield 422, 3) := by decide +kernel
theorem d_MM_part_362 : decode b_MM_part 362 = .ok (.iload_n 1, 1) := by decide +kernel
theorem d_MM_part_363 : decode b_MM_part 363 = .ok (.iaload, 1) := by decide +kernel
theorem d_MM_part_364 : decode b_MM_part 364 = .ok (.istore 6, 2) := by decide +kernel
theorem d_MM_part_366 : decode b_MM_part 366 = .ok (.iload 6, 2) := by decide +kernel
theorem d_MM_part_368 : decode b_MM_part 368 = .ok (.ifCond .lt 26, 3) := by decide +kernel
theorem d_MM_part_371 : decode b_MM_part 371 = .ok (.iload 5, 2) := by decide +kernel
theorem d_MM_part_373 : decode b_MM_part 373 = .ok (.ifCond .le 21, 3) := by decide +kernel
theorem d_MM_part_376 : decode b_MM_part 376 = .ok (.aload_n 0, 1) := by decide +kernel
theorem d_MM_part_377 : decode b_MM_part 377 = .ok (.getfield 20, 3) := by decide +kernel
theorem d_MM_part_380 : decode b_MM_part 380 = .ok (.getfield 436, 3) := by decide +kernel
theorem d_MM_part_383 : decode b_MM_part 383 = .ok (.iload 6, 2) := by decide +kernel
theorem d_MM_part_385 : decode b_MM_part 385 = .ok (.iaload, 1) := by decide +kernel
theorem d_MM_part_386 : decode b_MM_part 386 = .ok (.istore 6, 2) := by decide +kernel
theorem d_MM_part_388 : decode b_MM_part 388 = .ok (.iinc 5 (-1), 3) := by decide +kernel
theorem d_MM_part_391 : decode b_MM_part 391 = .ok (.goto (-25), 3) := by decide +kernel
theorem d_MM_part_394 : decode b_MM_part 394 = .ok (.iload 6, 2) := by decide +kernel
theorem d_MM_part_396 : decode b_MM_part 396 = .ok (.ireturn, 1) := by decide +kernel
theorem d_MM_leads_0 : decode b_MM_leads 0 = .ok (.aload_n 0, 1) := by decide +kernel
theorem d_MM_leads_1 : decode b_MM_leads 1 = .ok (.getfield 20, 3) := by decide +kernel
theorem d_MM_leads_4 : decode b_MM_leads 4 = .ok (.getfield 272, 3) := by decide +kernel
theorem d_MM_leads_7 : decode b_MM_leads 7 = .ok (.iload_n 1, 1) := by decide +kernel
theorem d_MM_leads_8 : decode b_MM_leads 8 = .ok (.iaload, 1) := by decide +kernel
theorem d_MM_leads_9 : decode b_MM_leads 9 = .ok (.istore_n 2, 1) := by decide +kernel
theorem d_MM_leads_10 : decode b_MM_leads 10 = .ok (.aload_n 0, 1) := by decide +kernel
theorem d_MM_leads_11 : decode b_MM_leads 11 = .ok (.getfield 20, 3) := by decide +kernel
theorem d_MM_leads_14 : decode b_MM_leads 14 = .ok (.getfield 269, 3) := by decide +kernel
theorem d_MM_leads_17 : decode b_MM_leads 17 = .ok (.iload_n 1, 1) := by decide +kernel
theorem d_MM_leads_18 : decode b_MM_leads 18 = .ok (.iaload, 1) := by decide +kernel
theorem d_MM_leads_19 : decode b_MM_leads 19 = .ok (.istore_n 3, 1) := by decide +kernel
theorem d_MM_leads_20 : decode b_MM_leads 20 = .ok (.iload_n 2, 1) := by decide +kernel
theorem d_MM_leads_21 : decode b_MM_leads 21 = .ok (.ifCond .eq 17, 3) := by decide +kernel
theorem d_MM_leads_24 : decode b_MM_leads 24 = .ok (.aload_n 0, 1) := by decide +kernel
theorem d_MM_leads_25 : decode b_MM_leads 25 = .ok (.getfield 20, 3) := by decide +kernel
theorem d_MM_leads_28 : decode b_MM_leads 28 = .ok (.getfield 263, 3) := by decide +kernel
theorem d_MM_leads_31 : decode b_MM_leads 31 = .ok (.iload_n 3, 1) := by decide +kernel
theorem d_MM_leads_32 : decode b_MM_leads 32 = .ok (.iaload, 1) := by decide +kernel
theorem d_MM_leads_33 : decode b_MM_leads 33 = .ok (.bipush 35, 2) := by decide +kernel
theorem d_MM_leads_35 : decode b_MM_leads 35 = .ok (.if_icmp .eq 5, 3) := by decide +kernel
theorem d_MM_leads_38 : decode b_MM_leads 38 = .ok (.iconst (-1), 1) := by decide +kernel
theorem d_MM_leads_39 : decode b_MM_leads 39 = .ok (.ireturn, 1) := by decide +kernel
theorem d_MM_leads_40 : decode b_MM_leads 40 = .ok (.iload_n 2, 1) := by decide +kernel
theorem d_MM_leads_41 : decode b_MM_leads 41 = .ok (.iconst 1, 1) := by decide +kernel
theorem d_MM_leads_42 : decode b_MM_leads 42 = .ok (.if_icmp .ne 5, 3) := by decide +kernel
theorem d_MM_leads_45 : decode b_MM_leads 45 = .ok (.iconst 0, 1) := by decide +kernel
theorem d_MM_leads_46 : decode b_MM_leads 46 = .ok (.ireturn, 1) := by decide +kernel
theorem d_MM_leads_47 : decode b_MM_leads 47 = .ok (.aload_n 0, 1) := by decide +kernel
theorem d_MM_leads_48 : decode b_MM_leads 48 = .ok (.getfield 20, 3) := by decide +kernel
theorem d_MM_leads_51 : decode b_MM_leads 51 = .ok (.getfield 263, 3) := by decide +kernel
theorem d_MM_leads_54 : decode b_MM_leads 54 = .ok (.iload_n 3, 1) := by decide +kernel
theorem d_MM_leads_55 : decode b_MM_leads 55 = .ok (.iconst 1, 1) := by decide +kernel
theorem d_MM_leads_56 : decode b_MM_leads 56 = .ok (.iadd, 1) := by decide +kernel
theorem d_MM_leads_57 : decode b_MM_leads 57 = .ok (.iaload, 1) := by decide +kernel
theorem d_MM_leads_58 : decode b_MM_leads 58 = .ok (.bipush 47, 2) := by decide +kernel
theorem d_MM_leads_60 : decode b_MM_leads 60 = .ok (.if_icmp .eq 136, 3) := by decide +kernel
theorem d_MM_leads_63 : decode b_MM_leads 63 = .ok (.iconst 0, 1) := by decide +kernel
theorem d_MM_leads_64 : decode b_MM_leads 64 = .ok (.istore 4, 2) := by decide +kernel
theorem d_MM_leads_66 : decode b_MM_leads 66 = .ok (.iload 4, 2) := by decide +kernel
theorem d_MM_leads_68 : decode b_MM_leads 68 = .ok (.aload_n 0, 1) := by decide +kernel
theorem d_MM_leads_69 : decode b_MM_leads 69 = .ok (.getfield 400, 3) := by decide +kernel
theorem d_MM_leads_72 : decode b_MM_leads 72 = .ok (.if_icmp .ge 122, 3) := by decide +kernel
theorem d_MM_leads_75 : decode b_MM_leads 75 = .ok (.aload_n 0, 1) := by decide +kernel
theorem d_MM_leads_76 : decode b_MM_leads 76 = .ok (.getfield 20, 3) := by decide +kernel
theorem d_MM_leads_79 : decode b_MM_leads 79 = .ok (.getfield 272, 3) := by decide +kernel
theorem d_MM_leads_82 : decode b_MM_leads 82 = .ok (.aload_n 0, 1) := by decide +kernel
theorem d_MM_leads_83 : decode b_MM_leads 83 = .ok (.getfield 200, 3) := by decide +kernel
theorem d_MM_leads_86 : decode b_MM_leads 86 = .ok (.iload 4, 2) := by decide +kernel
theorem d_MM_leads_88 : decode b_MM_leads 88 = .ok (.iaload, 1) := by decide +kernel
theorem d_MM_leads_89 : decode b_MM_leads 89 = .ok (.iaload, 1) := by decide +kernel
theorem d_MM_leads_90 : decode b_MM_leads 90 = .ok (.iload_n 2, 1) := by decide +kernel
theorem d_MM_leads_91 : decode b_MM_leads 91 = .ok (.iconst 1, 1) := by decide +kernel
theorem d_MM_leads_92 : decode b_MM_leads 92 = .ok (.isub, 1) := by decide +kernel
theorem d_MM_leads_93 : decode b_MM_leads 93 = .ok (.if_icmp .ne 7, 3) := by decide +kernel
theorem d_MM_leads_96 : decode b_MM_leads 96 = .ok (.iconst 1, 1) := by decide +kernel
theorem d_MM_leads_97 : decode b_MM_leads 97 = .ok (.goto 4, 3) := by decide +kernel
theorem d_MM_leads_100 : decode b_MM_leads 100 = .ok (.iconst 0, 1) := by decide +kernel
theorem d_MM_leads_101 : decode b_MM_leads 101 = .ok (.istore 5, 2) := by decide +kernel
theorem d_MM_leads_103 : decode b_MM_leads 103 = .ok (.iconst 0, 1) := by decide +kernel
theorem d_MM_leads_104 : decode b_MM_leads 104 = .ok (.istore 6, 2) := by decide +kernel
theorem d_MM_leads_106 : decode b_MM_leads 106 = .ok (.iload 5, 2) := by decide +kernel
theorem d_MM_leads_108 : decode b_MM_leads 108 = .ok (.ifCond .eq 67, 3) := by decide +kernel
theorem d_MM_leads_111 : decode b_MM_leads 111 = .ok (.iload 6, 2) := by decide +kernel
theorem d_MM_leads_113 : decode b_MM_leads 113 = .ok (.iload_n 2, 1) := by decide +kernel
theorem d_MM_leads_114 : decode b_MM_leads 114 = .ok (.iconst 1, 1) := by decide +kernel
theorem d_MM_leads_115 : decode b_MM_leads 115 = .ok (.isub, 1) := by decide +kernel
theorem d_MM_leads_116 : decode b_MM_leads 116 = .ok (.if_icmp .ge 59, 3) := by decide +kernel
theorem d_MM_leads_119 : decode b_MM_leads 119 = .ok (.aload_n 0, 1) := by decide +kernel
theorem d_MM_leads_120 : decode b_MM_leads 120 = .ok (.getfield 20, 3) := by decide +kernel
theorem d_MM_leads_123 : decode b_MM_leads 123 = .ok (.getfield 263, 3) := by decide +kernel
theorem d_MM_leads_126 : decode b_MM_leads 126 = .ok (.aload_n 0, 1) := by decide +kernel
theorem d_MM_leads_127 : decode b_MM_leads 127 = .ok (.getfield 20, 3) := by decide +kernel
theorem d_MM_leads_130 : decode b_MM_leads 130 = .ok (.getfield 269, 3) := by decide +kernel
theorem d_MM_leads_133 : decode b_MM_leads 133 = .ok (.aload_n 0, 1) := by decide +kernel
theorem d_MM_leads_134 : decode b_MM_leads 134 = .ok (.getfield 200, 3) := by decide +kernel
theorem d_MM_leads_137 : decode b_MM_leads 137 = .ok (.iload 4, 2) := by decide +kernel
theorem d_MM_leads_139 : decode b_MM_leads 139 = .ok (.iaload, 1) := by decide +kernel
theorem d_MM_leads_140 : decode b_MM_leads 140 = .ok (.iaload, 1) := by decide +kernel
theorem d_MM_leads_141 : decode b_MM_leads 141 = .ok (.iload 6, 2) := by decide +kernel
theorem d_MM_leads_143 : decode b_MM_leads 143 = .ok (.iadd, 1) := by decide +kernel
theorem d_MM_leads_144 : decode b_MM_leads 144 = .ok (.iaload, 1) := by decide +kernel
theorem d_MM_leads_145 : decode b_MM_leads 145 = .ok (.aload_n 0, 1) := by decide +kernel
theorem d_MM_leads_146 : decode b_MM_leads 146 = .ok (.getfield 20, 3) := by decide +kernel
theorem d_MM_leads_149 : decode b_MM_leads 149 = .ok (.getfield 263, 3) := by decide +kernel
theorem d_MM_leads_152 : decode b_MM_leads 152 = .ok (.iload_n 3, 1) := by decide +kernel
theorem d_MM_leads_153 : decode b_MM_leads 153 = .ok (.iconst 1, 1) := by decide +kernel
theorem d_MM_leads_154 : decode b_MM_leads 154 = .ok (.iadd, 1) := by decide +kernel
theorem d_MM_leads_155 : decode b_MM_leads 155 = .ok (.iload 6, 2) := by decide +kernel
theorem d_MM_leads_157 : decode b_MM_leads 157 = .ok (.iadd, 1) := by decide +kernel
theorem d_MM_leads_158 : decode b_MM_leads 158 = .ok (.iaload, 1) := by decide +kernel
theorem d_MM_leads_159 : decode b_MM_leads 159 = .ok (.if_icmp .ne 7, 3) := by decide +kernel
theorem d_MM_leads_162 : decode b_MM_leads 162 = .ok (.iconst 1, 1) := by decide +kernel
theorem d_MM_leads_163 : decode b_MM_leads 163 = .ok (.goto 4, 3) := by decide +kernel
theorem d_MM_leads_166 : decode b_MM_leads 166 = .ok (.iconst 0, 1) := by decide +kernel
theorem d_MM_leads_167 : decode b_MM_leads 167 = .ok (.istore 5, 2) := by decide +kernel
theorem d_MM_leads_169 : decode b_MM_leads 169 = .ok (.iinc 6 1, 3) := by decide +kernel
theorem d_MM_leads_172 : decode b_MM_leads 172 = .ok (.goto (-66), 3) := by decide +kernel
theorem d_MM_leads_175 : decode b_MM_leads 175 = .ok (.iload 5, 2) := by decide +kernel
theorem d_MM_leads_177 : decode b_MM_leads 177 = .ok (.ifCond .eq 11, 3) := by decide +kernel
theorem d_MM_leads_180 : decode b_MM_leads 180 = .ok (.aload_n 0, 1) := by decide +kernel
theorem d_MM_leads_181 : decode b_MM_leads 181 = .ok (.getfield 203, 3) := by decide +kernel
theorem d_MM_leads_184 : decode b_MM_leads 184 = .ok (.iload 4, 2) := by decide +kernel
theorem d_MM_leads_186 : decode b_MM_leads 186 = .ok (.iaload, 1) := by decide +kernel
theorem d_MM_leads_187 : decode b_MM_leads 187 = .ok (.ireturn, 1) := by decide +kernel
theorem d_MM_leads_188 : decode b_MM_leads 188 = .ok (.iinc 4 1, 3) := by decide +kernel
theorem d_MM_leads_191 : decode b_MM_leads 191 = .ok (.goto (-125), 3) := by decide +kernel
theorem d_MM_leads_194 : decode b_MM_leads 194 = .ok (.iconst (-1), 1) := by decide +kernel
theorem d_MM_leads_195 : decode b_MM_leads 195 = .ok (.ireturn, 1) := by decide +kernel
theorem d_MM_leads_196 : decode b_MM_leads 196 = .ok (.aload_n 0, 1) := by decide +kernel
theorem d_MM_leads_197 : decode b_MM_leads 197 = .ok (.iload_n 3, 1) := by decide +kernel
theorem d_MM_leads_198 : decode b_MM_leads 198 = .ok (.iconst 2, 1) := by decide +kernel
theorem d_MM_leads_199 : decode b_MM_leads 199 = .ok (.iadd, 1) := by decide +kernel
theorem d_MM_leads_200 : decode b_MM_leads 200 = .ok (.iload_n 3, 1) := by decide +kernel
theorem d_MM_leads_201 : decode b_MM_leads 201 = .ok (.iload_n 2, 1) := by decide +kernel
theorem d_MM_leads_202 : decode b_MM_leads 202 = .ok (.iadd, 1) := by decide +kernel
theorem d_MM_leads_203 : decode b_MM_leads 203 = .ok (.invokevirtual 479, 3) := by decide +kernel
theorem d_MM_leads_206 : decode b_MM_leads 206 = .ok (.ifCond .ne 5, 3) := by decide +kernel
theorem d_MM_leads_209 : decode b_MM_leads 209 = .ok (.iconst (-1), 1) := by decide +kernel
theorem d_MM_leads_210 : decode b_MM_leads 210 = .ok (.ireturn, 1) := by decide +kernel
theorem d_MM_leads_211 : decode b_MM_leads 211 = .ok (.iconst 0, 1) := by decide +kernel
theorem d_MM_leads_212 : decode b_MM_leads 212 = .ok (.istore 4, 2) := by decide +kernel
theorem d_MM_leads_214 : decode b_MM_leads 214 = .ok (.iconst 0, 1) := by decide +kernel
theorem d_MM_leads_215 : decode b_MM_leads 215 = .ok (.istore 5, 2) := by decide +kernel
theorem d_MM_leads_217 : decode b_MM_leads 217 = .ok (.iload 5, 2) := by decide +kernel
theorem d_MM_leads_219 : decode b_MM_leads 219 = .ok (.istore 6, 2) := by decide +kernel
theorem d_MM_leads_221 : decode b_MM_leads 221 = .ok (.iload 6, 2) := by decide +kernel
theorem d_MM_leads_223 : decode b_MM_leads 223 = .ok (.aload_n 0, 1) := by decide +kernel
theorem d_MM_leads_224 : decode b_MM_leads 224 = .ok (.getfield 482, 3) := by decide +kernel
theorem d_MM_leads_227 : decode b_MM_leads 227 = .ok (.if_icmp .ge 21, 3) := by decide +kernel
theorem d_MM_leads_230 : decode b_MM_leads 230 = .ok (.aload_n 0, 1) := by decide +kernel
theorem d_MM_leads_231 : decode b_MM_leads 231 = .ok (.getfield 206, 3) := by decide +kernel
theorem d_MM_leads_234 : decode b_MM_leads 234 = .ok (.iload 6, 2) := by decide +kernel
theorem d_MM_leads_236 : decode b_MM_leads 236 = .ok (.iaload, 1) := by decide +kernel
theorem d_MM_leads_237 : decode b_MM_leads 237 = .ok (.bipush 47, 2) := by decide +kernel
theorem d_MM_leads_239 : decode b_MM_leads 239 = .ok (.if_icmp .eq 9, 3) := by decide +kernel
theorem d_MM_leads_242 : decode b_MM_leads 242 = .ok (.iinc 6 1, 3) := by decide +kernel
theorem d_MM_leads_245 : decode b_MM_leads 245 = .ok (.goto (-24), 3) := by decide +kernel
theorem d_MM_leads_248 : decode b_MM_leads 248 = .ok (.aload_n 0, 1) := by decide +kernel
theorem d_MM_leads_249 : decode b_MM_leads 249 = .ok (.iload 4, 2) := by decide +kernel
theorem d_MM_leads_251 : decode b_MM_leads 251 = .ok (.iload 5, 2) := by decide +kernel
theorem d_MM_leads_253 : decode b_MM_leads 253 = .ok (.iload 6, 2) := by decide +kernel
theorem d_MM_leads_255 : decode b_MM_leads 255 = .ok (.invokevirtual 485, 3) := by decide +kernel
theorem d_MM_leads_258 : decode b_MM_leads 258 = .ok (.istore 4, 2) := by decide +kernel
theorem d_MM_leads_260 : decode b_MM_leads 260 = .ok (.iload 4, 2) := by decide +kernel
theorem d_MM_leads_262 : decode b_MM_leads 262 = .ok (.ifCond .ge 5, 3) := by decide +kernel
theorem d_MM_leads_265 : decode b_MM_leads 265 = .ok (.iconst (-1), 1) := by decide +kernel
theorem d_MM_leads_266 : decode b_MM_leads 266 = .ok (.ireturn, 1) := by decide +kernel
theorem d_MM_leads_267 : decode b_MM_leads 267 = .ok (.iload 6, 2) := by decide +kernel
theorem d_MM_leads_269 : decode b_MM_leads 269 = .ok (.aload_n 0, 1) := by decide +kernel
theorem d_MM_leads_270 : decode b_MM_leads 270 = .ok (.getfield 482, 3) := by decide +kernel
theorem d_MM_leads_273 : decode b_MM_leads 273 = .ok (.if_icmp .ne 20, 3) := by decide +kernel
theorem d_MM_leads_276 : decode b_MM_leads 276 = .ok (.aload_n 0, 1) := by decide +kernel
theorem d_MM_leads_277 : decode b_MM_leads 277 = .ok (.getfield 212, 3) := by decide +kernel
theorem d_MM_leads_280 : decode b_MM_leads 280 = .ok (.iload 4, 2) := by decide +kernel
theorem d_MM_leads_282 : decode b_MM_leads 282 = .ok (.baload, 1) := by decide +kernel
theorem d_MM_leads_283 : decode b_MM_leads 283 = .ok (.ifCond .eq 8, 3) := by decide +kernel
theorem d_MM_leads_286 : decode b_MM_leads 286 = .ok (.iload 4, 2) := by decide +kernel
theorem d_MM_leads_288 : decode b_MM_leads 288 = .ok (.goto 4, 3) := by decide +kernel
theorem d_MM_leads_291 : decode b_MM_leads 291 = .ok (.iconst (-1), 1) := by decide +kernel
theorem d_MM_leads_292 : decode b_MM_leads 292 = .ok (.ireturn, 1) := by decide +kernel
theorem d_MM_leads_293 : decode b_MM_leads 293 = .ok (.iload 6, 2) := by decide +kernel
theorem d_MM_leads_295 : decode b_MM_leads 295 = .ok (.iconst 1, 1) := by decide +kernel
theorem d_MM_leads_296 : decode b_MM_leads 296 = .ok (.iadd, 1) := by decide +kernel
theorem d_MM_leads_297 : decode b_MM_leads 297 = .ok (.istore 5, 2) := by decide +kernel
theorem d_MM_leads_299 : decode b_MM_leads 299 = .ok (.goto (-82), 3) := by decide +kernel
theorem d_MM_go_0 : decode b_MM_go 0 = .ok (.aload_n 0, 1) := by decide +kernel
theorem d_MM_go_1 : decode b_MM_go 1 = .ok (.getfield 215, 3) := by decide +kernel
theorem d_MM_go_4 : decode b_MM_go 4 = .ok (.iload_n 2, 1) := by decide +kernel
theorem d_MM_go_5 : decode b_MM_go 5 = .ok (.baload, 1) := by decide +kernel
theorem d_MM_go_6 : decode b_MM_go 6 = .ok (.ifCond .ne 12, 3) := by decide +kernel
theorem d_MM_go_9 : decode b_MM_go 9 = .ok (.iload_n 1, 1) := by decide +kernel
theorem d_MM_go_10 : decode b_MM_go 10 = .ok (.aload_n 0, 1) := by decide +kernel
theorem d_MM_go_11 : decode b_MM_go 11 = .ok (.getfield 209, 3) := by decide +kernel
theorem d_MM_go_14 : decode b_MM_go 14 = .ok (.arraylength, 1) := by decide +kernel
theorem d_MM_go_15 : decode b_MM_go 15 = .ok (.if_icmp .ne 5, 3) := by decide +kernel
theorem d_MM_go_18 : decode b_MM_go 18 = .ok (.iload_n 1, 1) := by decide +kernel
theorem d_MM_go_19 : decode b_MM_go 19 = .ok (.ireturn, 1) := by decide +kernel
theorem d_MM_go_20 : decode b_MM_go 20 = .ok (.aload_n 0, 1) := by decide +kernel
theorem d_MM_go_21 : decode b_MM_go 21 = .ok (.getfield 209, 3) := by decide +kernel
theorem d_MM_go_24 : decode b_MM_go 24 = .ok (.iload_n 1, 1) := by decide +kernel
theorem d_MM_go_25 : decode b_MM_go 25 = .ok (.iload_n 2, 1) := by decide +kernel
theorem d_MM_go_26 : decode b_MM_go 26 = .ok (.iastore, 1) := by decide +kernel
theorem d_MM_go_27 : decode b_MM_go 27 = .ok (.iload_n 1, 1) := by decide +kernel
theorem d_MM_go_28 : decode b_MM_go 28 = .ok (.iconst 1, 1) := by decide +kernel
theorem d_MM_go_29 : decode b_MM_go 29 = .ok (.iadd, 1) := by decide +kernel
theorem d_MM_go_30 : decode b_MM_go 30 = .ok (.ireturn, 1) := by decide +kernel
theorem d_MM_comesBack_0 : decode b_MM_comesBack 0 = .ok (.iconst 0, 1) := by decide +kernel
theorem d_MM_comesBack_1 : decode b_MM_comesBack 1 = .ok (.istore_n 2, 1) := by decide +kernel
theorem d_MM_comesBack_2 : decode b_MM_comesBack 2 = .ok (.iload_n 2, 1) := by decide +kernel
theorem d_MM_comesBack_3 : decode b_MM_comesBack 3 = .ok (.aload_n 0, 1) := by decide +kernel
theorem d_MM_comesBack_4 : decode b_MM_comesBack 4 = .ok (.getfield 20, 3) := by decide +kernel
theorem d_MM_comesBack_7 : decode b_MM_comesBack 7 = .ok (.getfield 251, 3) := by decide +kernel
theorem d_MM_comesBack_10 : decode b_MM_comesBack 10 = .ok (.if_icmp .ge 16, 3) := by decide +kernel
theorem d_MM_comesBack_13 : decode b_MM_comesBack 13 = .ok (.aload_n 0, 1) := by decide +kernel
theorem d_MM_comesBack_14 : decode b_MM_comesBack 14 = .ok (.getfield 215, 3) := by decide +kernel
theorem d_MM_comesBack_17 : decode b_MM_comesBack 17 = .ok (.iload_n 2, 1) := by decide +kernel
theorem d_MM_comesBack_18 : decode b_MM_comesBack 18 = .ok (.iconst 0, 1) := by decide +kernel
theorem d_MM_comesBack_19 : decode b_MM_comesBack 19 = .ok (.bastore, 1) := by decide +kernel
theorem d_MM_comesBack_20 : decode b_MM_comesBack 20 = .ok (.iinc 2 1, 3) := by decide +kernel
theorem d_MM_comesBack_23 : decode b_MM_comesBack 23 = .ok (.goto (-21), 3) := by decide +kernel
theorem d_MM_comesBack_26 : decode b_MM_comesBack 26 = .ok (.iconst 0, 1) := by decide +kernel
theorem d_MM_comesBack_27 : decode b_MM_comesBack 27 = .ok (.istore_n 2, 1) := by decide +kernel
theorem d_MM_comesBack_28 : decode b_MM_comesBack 28 = .ok (.aload_n 0, 1) := by decide +kernel
theorem d_MM_comesBack_29 : decode b_MM_comesBack 29 = .ok (.getfield 209, 3) := by decide +kernel
theorem d_MM_comesBack_32 : decode b_MM_comesBack 32 = .ok (.iload_n 2, 1) := by decide +kernel
theorem d_MM_comesBack_33 : decode b_MM_comesBack 33 = .ok (.iinc 2 1, 3) := by decide +kernel
theorem d_MM_comesBack_36 : decode b_MM_comesBack 36 = .ok (.iload_n 1, 1) := by decide +kernel
theorem d_MM_comesBack_37 : decode b_MM_comesBack 37 = .ok (.iastore, 1) := by decide +kernel
theorem d_MM_comesBack_38 : decode b_MM_comesBack 38 = .ok (.iconst 1, 1) := by decide +kernel
theorem d_MM_comesBack_39 : decode b_MM_comesBack 39 = .ok (.istore_n 3, 1) := by decide +kernel
theorem d_MM_comesBack_40 : decode b_MM_comesBack 40 = .ok (.iload_n 2, 1) := by decide +kernel
theorem d_MM_comesBack_41 : decode b_MM_comesBack 41 = .ok (.ifCond .le 225, 3) := by decide +kernel
theorem d_MM_comesBack_44 : decode b_MM_comesBack 44 = .ok (.aload_n 0, 1) := by decide +kernel
theorem d_MM_comesBack_45 : decode b_MM_comesBack 45 = .ok (.getfield 209, 3) := by decide +kernel
theorem d_MM_comesBack_48 : decode b_MM_comesBack 48 = .ok (.iinc 2 (-1), 3) := by decide +kernel
theorem d_MM_comesBack_51 : decode b_MM_comesBack 51 = .ok (.iload_n 2, 1) := by decide +kernel
theorem d_MM_comesBack_52 : decode b_MM_comesBack 52 = .ok (.iaload, 1) := by decide +kernel
theorem d_MM_comesBack_53 : decode b_MM_comesBack 53 = .ok (.istore 4, 2) := by decide +kernel
theorem d_MM_comesBack_55 : decode b_MM_comesBack 55 = .ok (.iload_n 3, 1) := by decide +kernel
theorem d_MM_comesBack_56 : decode b_MM_comesBack 56 = .ok (.ifCond .ne 11, 3) := by decide +kernel
theorem d_MM_comesBack_59 : decode b_MM_comesBack 59 = .ok (.iload 4, 2) := by decide +kernel
theorem d_MM_comesBack_61 : decode b_MM_comesBack 61 = .ok (.iload_n 1, 1) := by decide +kernel
theorem d_MM_comesBack_62 : decode b_MM_comesBack 62 = .ok (.if_icmp .ne 5, 3) := by decide +kernel
theorem d_MM_comesBack_65 : decode b_MM_comesBack 65 = .ok (.iconst 1, 1) := by decide +kernel
theorem d_MM_comesBack_66 : decode b_MM_comesBack 66 = .ok (.ireturn, 1) := by decide +kernel
theorem d_MM_comesBack_67 : decode b_MM_comesBack 67 = .ok (.iload_n 3, 1) := by decide +kernel
theorem d_MM_comesBack_68 : decode b_MM_comesBack 68 = .ok (.ifCond .ne 16, 3) := by decide +kernel
theorem d_MM_comesBack_71 : decode b_MM_comesBack 71 = .ok (.aload_n 0, 1) := by decide +kernel
theorem d_MM_comesBack_72 : decode b_MM_comesBack 72 = .ok (.getfield 215, 3) := by decide +kernel
theorem d_MM_comesBack_75 : decode b_MM_comesBack 75 = .ok (.iload 4, 2) := by decide +kernel
theorem d_MM_comesBack_77 : decode b_MM_comesBack 77 = .ok (.baload, 1) := by decide +kernel
theorem d_MM_comesBack_78 : decode b_MM_comesBack 78 = .ok (.ifCond .eq 6, 3) := by decide +kernel
theorem d_MM_comesBack_81 : decode b_MM_comesBack 81 = .ok (.goto (-41), 3) := by decide +kernel
theorem d_MM_comesBack_84 : decode b_MM_comesBack 84 = .ok (.iload_n 3, 1) := by decide +kernel
theorem d_MM_comesBack_85 : decode b_MM_comesBack 85 = .ok (.ifCond .ne 11, 3) := by decide +kernel
theorem d_MM_comesBack_88 : decode b_MM_comesBack 88 = .ok (.aload_n 0, 1) := by decide +kernel
theorem d_MM_comesBack_89 : decode b_MM_comesBack 89 = .ok (.getfield 215, 3) := by decide +kernel
theorem d_MM_comesBack_92 : decode b_MM_comesBack 92 = .ok (.iload 4, 2) := by decide +kernel
theorem d_MM_comesBack_94 : decode b_MM_comesBack 94 = .ok (.iconst 1, 1) := by decide +kernel
theorem d_MM_comesBack_95 : decode b_MM_comesBack 95 = .ok (.bastore, 1) := by decide +kernel
theorem d_MM_comesBack_96 : decode b_MM_comesBack 96 = .ok (.iconst 0, 1) := by decide +kernel
theorem d_MM_comesBack_97 : decode b_MM_comesBack 97 = .ok (.istore_n 3, 1) := by decide +kernel
theorem d_MM_comesBack_98 : decode b_MM_comesBack 98 = .ok (.aload_n 0, 1) := by decide +kernel
theorem d_MM_comesBack_99 : decode b_MM_comesBack 99 = .ok (.getfield 20, 3) := by decide +kernel
theorem d_MM_comesBack_102 : decode b_MM_comesBack 102 = .ok (.getfield 419, 3) := by decide +kernel
theorem d_MM_comesBack_105 : decode b_MM_comesBack 105 = .ok (.iload 4, 2) := by decide +kernel
theorem d_MM_comesBack_107 : decode b_MM_comesBack 107 = .ok (.iaload, 1) := by decide +kernel
theorem d_MM_comesBack_108 : decode b_MM_comesBack 108 = .ok (.bipush 6, 2) := by decide +kernel
theorem d_MM_comesBack_110 : decode b_MM_comesBack 110 = .ok (.if_icmp .eq 6, 3) := by decide +kernel
theorem d_MM_comesBack_113 : decode b_MM_comesBack 113 = .ok (.goto (-73), 3) := by decide +kernel
theorem d_MM_comesBack_116 : decode b_MM_comesBack 116 = .ok (.aload_n 0, 1) := by decide +kernel
theorem d_MM_comesBack_117 : decode b_MM_comesBack 117 = .ok (.getfield 20, 3) := by decide +kernel
theorem d_MM_comesBack_120 : decode b_MM_comesBack 120 = .ok (.getfield 422, 3) := by decide +kernel
theorem d_MM_comesBack_123 : decode b_MM_comesBack 123 = .ok (.iload 4, 2) := by decide +kernel
theorem d_MM_comesBack_125 : decode b_MM_comesBack 125 = .ok (.iaload, 1) := by decide +kernel
theorem d_MM_comesBack_126 : decode b_MM_comesBack 126 = .ok (.istore 5, 2) := by decide +kernel
theorem d_MM_comesBack_128 : decode b_MM_comesBack 128 = .ok (.iload 5, 2) := by decide +kernel
theorem d_MM_comesBack_130 : decode b_MM_comesBack 130 = .ok (.ifCond .lt 133, 3) := by decide +kernel
theorem d_MM_comesBack_133 : decode b_MM_comesBack 133 = .ok (.aload_n 0, 1) := by decide +kernel
theorem d_MM_comesBack_134 : decode b_MM_comesBack 134 = .ok (.getfield 194, 3) := by decide +kernel
theorem d_MM_comesBack_137 : decode b_MM_comesBack 137 = .ok (.iload 5, 2) := by decide +kernel
theorem d_MM_comesBack_139 : decode b_MM_comesBack 139 = .ok (.iaload, 1) := by decide +kernel
theorem d_MM_comesBack_140 : decode b_MM_comesBack 140 = .ok (.istore 6, 2) := by decide +kernel
theorem d_MM_comesBack_142 : decode b_MM_comesBack 142 = .ok (.iload 6, 2) := by decide +kernel
theorem d_MM_comesBack_144 : decode b_MM_comesBack 144 = .ok (.bipush 32, 2) := by decide +kernel
theorem d_MM_comesBack_146 : decode b_MM_comesBack 146 = .ok (.if_icmp .ne 19, 3) := by decide +kernel
theorem d_MM_comesBack_149 : decode b_MM_comesBack 149 = .ok (.aload_n 0, 1) := by decide +kernel
theorem d_MM_comesBack_150 : decode b_MM_comesBack 150 = .ok (.iload_n 2, 1) := by decide +kernel
theorem d_MM_comesBack_151 : decode b_MM_comesBack 151 = .ok (.aload_n 0, 1) := by decide +kernel
theorem d_MM_comesBack_152 : decode b_MM_comesBack 152 = .ok (.getfield 197, 3) := by decide +kernel
theorem d_MM_comesBack_155 : decode b_MM_comesBack 155 = .ok (.iload 5, 2) := by decide +kernel
theorem d_MM_comesBack_157 : decode b_MM_comesBack 157 = .ok (.iaload, 1) := by decide +kernel
theorem d_MM_comesBack_158 : decode b_MM_comesBack 158 = .ok (.invokevirtual 491, 3) := by decide +kernel
theorem d_MM_comesBack_161 : decode b_MM_comesBack 161 = .ok (.istore_n 2, 1) := by decide +kernel
theorem d_MM_comesBack_162 : decode b_MM_comesBack 162 = .ok (.goto 86, 3) := by decide +kernel
theorem d_MM_comesBack_165 : decode b_MM_comesBack 165 = .ok (.iload 6, 2) := by decide +kernel
theorem d_MM_comesBack_167 : decode b_MM_comesBack 167 = .ok (.ifCond .lt 20, 3) := by decide +kernel
theorem d_MM_comesBack_170 : decode b_MM_comesBack 170 = .ok (.iload 6, 2) := by decide +kernel
theorem d_MM_comesBack_172 : decode b_MM_comesBack 172 = .ok (.iconst 3, 1) := by decide +kernel
theorem d_MM_comesBack_173 : decode b_MM_comesBack 173 = .ok (.if_icmp .gt 14, 3) := by decide +kernel
theorem d_MM_comesBack_176 : decode b_MM_comesBack 176 = .ok (.aload_n 0, 1) := by decide +kernel
theorem d_MM_comesBack_177 : decode b_MM_comesBack 177 = .ok (.iload_n 2, 1) := by decide +kernel
theorem d_MM_comesBack_178 : decode b_MM_comesBack 178 = .ok (.iload 5, 2) := by decide +kernel
theorem d_MM_comesBack_180 : decode b_MM_comesBack 180 = .ok (.invokevirtual 491, 3) := by decide +kernel
theorem d_MM_comesBack_183 : decode b_MM_comesBack 183 = .ok (.istore_n 2, 1) := by decide +kernel
theorem d_MM_comesBack_184 : decode b_MM_comesBack 184 = .ok (.goto 64, 3) := by decide +kernel
theorem d_MM_comesBack_187 : decode b_MM_comesBack 187 = .ok (.iload 6, 2) := by decide +kernel
theorem d_MM_comesBack_189 : decode b_MM_comesBack 189 = .ok (.bipush 10, 2) := by decide +kernel
theorem d_MM_comesBack_191 : decode b_MM_comesBack 191 = .ok (.if_icmp .lt 10, 3) := by decide +kernel
theorem d_MM_comesBack_194 : decode b_MM_comesBack 194 = .ok (.iload 6, 2) := by decide +kernel
theorem d_MM_comesBack_196 : decode b_MM_comesBack 196 = .ok (.bipush 12, 2) := by decide +kernel
theorem d_MM_comesBack_198 : decode b_MM_comesBack 198 = .ok (.if_icmp .le 10, 3) := by decide +kernel
theorem d_MM_comesBack_201 : decode b_MM_comesBack 201 = .ok (.iload 6, 2) := by decide +kernel
theorem d_MM_comesBack_203 : decode b_MM_comesBack 203 = .ok (.bipush 17, 2) := by decide +kernel
theorem d_MM_comesBack_205 : decode b_MM_comesBack 205 = .ok (.if_icmp .ne 43, 3) := by decide +kernel
theorem d_MM_comesBack_208 : decode b_MM_comesBack 208 = .ok (.aload_n 0, 1) := by decide +kernel
theorem d_MM_comesBack_209 : decode b_MM_comesBack 209 = .ok (.getfield 20, 3) := by decide +kernel
theorem d_MM_comesBack_212 : decode b_MM_comesBack 212 = .ok (.getfield 422, 3) := by decide +kernel
theorem d_MM_comesBack_215 : decode b_MM_comesBack 215 = .ok (.iload 5, 2) := by decide +kernel
theorem d_MM_comesBack_217 : decode b_MM_comesBack 217 = .ok (.iaload, 1) := by decide +kernel
theorem d_MM_comesBack_218 : decode b_MM_comesBack 218 = .ok (.istore 7, 2) := by decide +kernel
theorem d_MM_comesBack_220 : decode b_MM_comesBack 220 = .ok (.iload 7, 2) := by decide +kernel
theorem d_MM_comesBack_222 : decode b_MM_comesBack 222 = .ok (.ifCond .lt 26, 3) := by decide +kernel
theorem d_MM_comesBack_225 : decode b_MM_comesBack 225 = .ok (.aload_n 0, 1) := by decide +kernel
theorem d_MM_comesBack_226 : decode b_MM_comesBack 226 = .ok (.iload_n 2, 1) := by decide +kernel
theorem d_MM_comesBack_227 : decode b_MM_comesBack 227 = .ok (.iload 7, 2) := by decide +kernel
theorem d_MM_comesBack_229 : decode b_MM_comesBack 229 = .ok (.invokevirtual 491, 3) := by decide +kernel
theorem d_MM_comesBack_232 : decode b_MM_comesBack 232 = .ok (.istore_n 2, 1) := by decide +kernel
theorem d_MM_comesBack_233 : decode b_MM_comesBack 233 = .ok (.aload_n 0, 1) := by decide +kernel
theorem d_MM_comesBack_234 : decode b_MM_comesBack 234 = .ok (.getfield 20, 3) := by decide +kernel
theorem d_MM_comesBack_237 : decode b_MM_comesBack 237 = .ok (.getfield 436, 3) := by decide +kernel
theorem d_MM_comesBack_240 : decode b_MM_comesBack 240 = .ok (.iload 7, 2) := by decide +kernel
theorem d_MM_comesBack_242 : decode b_MM_comesBack 242 = .ok (.iaload, 1) := by decide +kernel
theorem d_MM_comesBack_243 : decode b_MM_comesBack 243 = .ok (.istore 7, 2) := by decide +kernel
theorem d_MM_comesBack_245 : decode b_MM_comesBack 245 = .ok (.goto (-25), 3) := by decide +kernel
theorem d_MM_comesBack_248 : decode b_MM_comesBack 248 = .ok (.aload_n 0, 1) := by decide +kernel
theorem d_MM_comesBack_249 : decode b_MM_comesBack 249 = .ok (.getfield 20, 3) := by decide +kernel
theorem d_MM_comesBack_252 : decode b_MM_comesBack 252 = .ok (.getfield 436, 3) := by decide +kernel
theorem d_MM_comesBack_255 : decode b_MM_comesBack 255 = .ok (.iload 5, 2) := by decide +kernel
theorem d_MM_comesBack_257 : decode b_MM_comesBack 257 = .ok (.iaload, 1) := by decide +kernel
theorem d_MM_comesBack_258 : decode b_MM_comesBack 258 = .ok (.istore 5, 2) := by decide +kernel
theorem d_MM_comesBack_260 : decode b_MM_comesBack 260 = .ok (.goto (-132), 3) := by decide +kernel
theorem d_MM_comesBack_263 : decode b_MM_comesBack 263 = .ok (.goto (-223), 3) := by decide +kernel
theorem d_MM_comesBack_266 : decode b_MM_comesBack 266 = .ok (.iconst 0, 1) := by decide +kernel
theorem d_MM_comesBack_267 : decode b_MM_comesBack 267 = .ok (.ireturn, 1) := by decide +kernel
theorem d_MM_check_0 : decode b_MM_check 0 = .ok (.aload_n 0, 1) := by decide +kernel
theorem d_MM_check_1 : decode b_MM_check 1 = .ok (.iconst 0, 1) := by decide +kernel
theorem d_MM_check_2 : decode b_MM_check 2 = .ok (.putfield 230, 3) := by decide +kernel
theorem d_MM_check_5 : decode b_MM_check 5 = .ok (.aload_n 0, 1) := by decide +kernel
theorem d_MM_check_6 : decode b_MM_check 6 = .ok (.aload_n 0, 1) := by decide +kernel
theorem d_MM_check_7 : decode b_MM_check 7 = .ok (.getfield 20, 3) := by decide +kernel
theorem d_MM_check_10 : decode b_MM_check 10 = .ok (.getfield 251, 3) := by decide +kernel
theorem d_MM_check_13 : decode b_MM_check 13 = .ok (.ifCond .ne 7, 3) := by decide +kernel
theorem d_MM_check_16 : decode b_MM_check 16 = .ok (.iconst 1, 1) := by decide +kernel
theorem d_MM_check_17 : decode b_MM_check 17 = .ok (.goto 4, 3) := by decide +kernel
theorem d_MM_check_20 : decode b_MM_check 20 = .ok (.iconst 0, 1) := by decide +kernel
theorem d_MM_check_21 : decode b_MM_check 21 = .ok (.iconst 1, 1) := by decide +kernel
theorem d_MM_check_22 : decode b_MM_check 22 = .ok (.invokevirtual 236, 3) := by decide +kernel
theorem d_MM_check_25 : decode b_MM_check 25 = .ok (.ifCond .eq 5, 3) := by decide +kernel
theorem d_MM_check_28 : decode b_MM_check 28 = .ok (.iconst 0, 1) := by decide +kernel
theorem d_MM_check_29 : decode b_MM_check 29 = .ok (.ireturn, 1) := by decide +kernel
theorem d_MM_check_30 : decode b_MM_check 30 = .ok (.aload_n 0, 1) := by decide +kernel
theorem d_MM_check_31 : decode b_MM_check 31 = .ok (.iconst 0, 1) := by decide +kernel
theorem d_MM_check_32 : decode b_MM_check 32 = .ok (.putfield 394, 3) := by decide +kernel
theorem d_MM_check_35 : decode b_MM_check 35 = .ok (.aload_n 0, 1) := by decide +kernel
theorem d_MM_check_36 : decode b_MM_check 36 = .ok (.iconst 0, 1) := by decide +kernel
theorem d_MM_check_37 : decode b_MM_check 37 = .ok (.putfield 400, 3) := by decide +kernel
theorem d_MM_check_40 : decode b_MM_check 40 = .ok (.iconst 0, 1) := by decide +kernel
theorem d_MM_check_41 : decode b_MM_check 41 = .ok (.istore_n 1, 1) := by decide +kernel
theorem d_MM_check_42 : decode b_MM_check 42 = .ok (.iload_n 1, 1) := by decide +kernel
theorem d_MM_check_43 : decode b_MM_check 43 = .ok (.sipush 1000, 3) := by decide +kernel
theorem d_MM_check_46 : decode b_MM_check 46 = .ok (.if_icmp .ge 30, 3) := by decide +kernel
theorem d_MM_check_49 : decode b_MM_check 49 = .ok (.aload_n 0, 1) := by decide +kernel
theorem d_MM_check_50 : decode b_MM_check 50 = .ok (.getfield 212, 3) := by decide +kernel
theorem d_MM_check_53 : decode b_MM_check 53 = .ok (.iload_n 1, 1) := by decide +kernel
theorem d_MM_check_54 : decode b_MM_check 54 = .ok (.iconst 0, 1) := by decide +kernel
theorem d_MM_check_55 : decode b_MM_check 55 = .ok (.bastore, 1) := by decide +kernel
theorem d_MM_check_56 : decode b_MM_check 56 = .ok (.aload_n 0, 1) := by decide +kernel
theorem d_MM_check_57 : decode b_MM_check 57 = .ok (.getfield 194, 3) := by decide +kernel
theorem d_MM_check_60 : decode b_MM_check 60 = .ok (.iload_n 1, 1) := by decide +kernel
theorem d_MM_check_61 : decode b_MM_check 61 = .ok (.iconst (-1), 1) := by decide +kernel
theorem d_MM_check_62 : decode b_MM_check 62 = .ok (.iastore, 1) := by decide +kernel
theorem d_MM_check_63 : decode b_MM_check 63 = .ok (.aload_n 0, 1) := by decide +kernel
theorem d_MM_check_64 : decode b_MM_check 64 = .ok (.getfield 197, 3) := by decide +kernel
theorem d_MM_check_67 : decode b_MM_check 67 = .ok (.iload_n 1, 1) := by decide +kernel
theorem d_MM_check_68 : decode b_MM_check 68 = .ok (.iconst (-1), 1) := by decide +kernel
theorem d_MM_check_69 : decode b_MM_check 69 = .ok (.iastore, 1) := by decide +kernel
theorem d_MM_check_70 : decode b_MM_check 70 = .ok (.iinc 1 1, 3) := by decide +kernel
theorem d_MM_check_73 : decode b_MM_check 73 = .ok (.goto (-31), 3) := by decide +kernel
theorem d_MM_check_76 : decode b_MM_check 76 = .ok (.aload_n 0, 1) := by decide +kernel
theorem d_MM_check_77 : decode b_MM_check 77 = .ok (.iconst 0, 1) := by decide +kernel
theorem d_MM_check_78 : decode b_MM_check 78 = .ok (.invokevirtual 403, 3) := by decide +kernel
theorem d_MM_check_81 : decode b_MM_check 81 = .ok (.aload_n 0, 1) := by decide +kernel
theorem d_MM_check_82 : decode b_MM_check 82 = .ok (.getfield 394, 3) := by decide +kernel
theorem d_MM_check_85 : decode b_MM_check 85 = .ok (.ifCond .ne 76, 3) := by decide +kernel
theorem d_MM_check_88 : decode b_MM_check 88 = .ok (.iconst 0, 1) := by decide +kernel
theorem d_MM_check_89 : decode b_MM_check 89 = .ok (.istore_n 1, 1) := by decide +kernel
theorem d_MM_check_90 : decode b_MM_check 90 = .ok (.iload_n 1, 1) := by decide +kernel
theorem d_MM_check_91 : decode b_MM_check 91 = .ok (.aload_n 0, 1) := by decide +kernel
theorem d_MM_check_92 : decode b_MM_check 92 = .ok (.getfield 20, 3) := by decide +kernel
theorem d_MM_check_95 : decode b_MM_check 95 = .ok (.getfield 251, 3) := by decide +kernel
theorem d_MM_check_98 : decode b_MM_check 98 = .ok (.if_icmp .ge 63, 3) := by decide +kernel
theorem d_MM_check_101 : decode b_MM_check 101 = .ok (.aload_n 0, 1) := by decide +kernel
theorem d_MM_check_102 : decode b_MM_check 102 = .ok (.getfield 194, 3) := by decide +kernel
theorem d_MM_check_105 : decode b_MM_check 105 = .ok (.iload_n 1, 1) := by decide +kernel
theorem d_MM_check_106 : decode b_MM_check 106 = .ok (.iaload, 1) := by decide +kernel
theorem d_MM_check_107 : decode b_MM_check 107 = .ok (.bipush 32, 2) := by decide +kernel
theorem d_MM_check_109 : decode b_MM_check 109 = .ok (.if_icmp .ne 46, 3) := by decide +kernel
theorem d_MM_check_112 : decode b_MM_check 112 = .ok (.aload_n 0, 1) := by decide +kernel
theorem d_MM_check_113 : decode b_MM_check 113 = .ok (.getfield 212, 3) := by decide +kernel
theorem d_MM_check_116 : decode b_MM_check 116 = .ok (.aload_n 0, 1) := by decide +kernel
theorem d_MM_check_117 : decode b_MM_check 117 = .ok (.getfield 20, 3) := by decide +kernel
theorem d_MM_check_120 : decode b_MM_check 120 = .ok (.getfield 406, 3) := by decide +kernel
theorem d_MM_check_123 : decode b_MM_check 123 = .ok (.iload_n 1, 1) := by decide +kernel
theorem d_MM_check_124 : decode b_MM_check 124 = .ok (.iaload, 1) := by decide +kernel
theorem d_MM_check_125 : decode b_MM_check 125 = .ok (.baload, 1) := by decide +kernel
theorem d_MM_check_126 : decode b_MM_check 126 = .ok (.ifCond .eq 29, 3) := by decide +kernel
theorem d_MM_check_129 : decode b_MM_check 129 = .ok (.aload_n 0, 1) := by decide +kernel
theorem d_MM_check_130 : decode b_MM_check 130 = .ok (.getfield 197, 3) := by decide +kernel
theorem d_MM_check_133 : decode b_MM_check 133 = .ok (.iload_n 1, 1) := by decide +kernel
theorem d_MM_check_134 : decode b_MM_check 134 = .ok (.aload_n 0, 1) := by decide +kernel
