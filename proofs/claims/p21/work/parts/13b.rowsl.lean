theorem dL_part_0 : decode cL_part 0 = .ok (.iload_n 1, 1) := by decide +kernel
theorem dL_part_1 : decode cL_part 1 = .ok (.aload_n 0, 1) := by decide +kernel
theorem dL_part_2 : decode cL_part 2 = .ok (.arraylength, 1) := by decide +kernel
theorem dL_part_3 : decode cL_part 3 = .ok (.if_icmp .ge 9, 3) := by decide +kernel
theorem dL_part_6 : decode cL_part 6 = .ok (.aload_n 0, 1) := by decide +kernel
theorem dL_part_7 : decode cL_part 7 = .ok (.iload_n 1, 1) := by decide +kernel
theorem dL_part_8 : decode cL_part 8 = .ok (.iaload, 1) := by decide +kernel
theorem dL_part_9 : decode cL_part 9 = .ok (.goto 16, 3) := by decide +kernel
theorem dL_part_25 : decode cL_part 25 = .ok (.istore_n 3, 1) := by decide +kernel
theorem dL_part_26 : decode cL_part 26 = .ok (.iload_n 3, 1) := by decide +kernel
theorem dL_part_27 : decode cL_part 27 = .ok (.ldc 7, 2) := by decide +kernel
theorem dL_part_29 : decode cL_part 29 = .ok (.iand, 1) := by decide +kernel
theorem dL_part_30 : decode cL_part 30 = .ok (.iload_n 2, 1) := by decide +kernel
theorem dL_part_31 : decode cL_part 31 = .ok (.irem, 1) := by decide +kernel
theorem dL_part_32 : decode cL_part 32 = .ok (.ireturn, 1) := by decide +kernel
theorem dL_does_0 : decode cL_does 0 = .ok (.iload_n 1, 1) := by decide +kernel
theorem dL_does_1 : decode cL_does 1 = .ok (.ifCond .ne 11, 3) := by decide +kernel
theorem dL_does_12 : decode cL_does 12 = .ok (.iload_n 1, 1) := by decide +kernel
theorem dL_does_13 : decode cL_does 13 = .ok (.iconst 1, 1) := by decide +kernel
theorem dL_does_14 : decode cL_does 14 = .ok (.if_icmp .ne 12, 3) := by decide +kernel
theorem dL_does_26 : decode cL_does 26 = .ok (.iload_n 1, 1) := by decide +kernel
theorem dL_does_27 : decode cL_does 27 = .ok (.iconst 2, 1) := by decide +kernel
theorem dL_does_28 : decode cL_does 28 = .ok (.if_icmp .ne 11, 3) := by decide +kernel
theorem dL_does_39 : decode cL_does 39 = .ok (.iload_n 1, 1) := by decide +kernel
theorem dL_does_40 : decode cL_does 40 = .ok (.iconst 3, 1) := by decide +kernel
theorem dL_does_41 : decode cL_does 41 = .ok (.if_icmp .ne 14, 3) := by decide +kernel
theorem dL_does_55 : decode cL_does 55 = .ok (.iload_n 1, 1) := by decide +kernel
theorem dL_does_56 : decode cL_does 56 = .ok (.iconst 4, 1) := by decide +kernel
theorem dL_does_57 : decode cL_does 57 = .ok (.if_icmp .ne 12, 3) := by decide +kernel
theorem dL_does_69 : decode cL_does 69 = .ok (.iload_n 1, 1) := by decide +kernel
theorem dL_does_70 : decode cL_does 70 = .ok (.iconst 5, 1) := by decide +kernel
theorem dL_does_71 : decode cL_does 71 = .ok (.if_icmp .ne 19, 3) := by decide +kernel
theorem dL_does_90 : decode cL_does 90 = .ok (.iload_n 1, 1) := by decide +kernel
theorem dL_does_91 : decode cL_does 91 = .ok (.bipush 6, 2) := by decide +kernel
theorem dL_does_93 : decode cL_does 93 = .ok (.if_icmp .ne 19, 3) := by decide +kernel
theorem dL_does_112 : decode cL_does 112 = .ok (.iload_n 1, 1) := by decide +kernel
theorem dL_does_113 : decode cL_does 113 = .ok (.bipush 7, 2) := by decide +kernel
theorem dL_does_115 : decode cL_does 115 = .ok (.if_icmp .ne 11, 3) := by decide +kernel
theorem dL_does_126 : decode cL_does 126 = .ok (.iload_n 1, 1) := by decide +kernel
theorem dL_does_127 : decode cL_does 127 = .ok (.bipush 8, 2) := by decide +kernel
theorem dL_does_129 : decode cL_does 129 = .ok (.if_icmp .ne 20, 3) := by decide +kernel
theorem dL_does_149 : decode cL_does 149 = .ok (.aload_n 0, 1) := by decide +kernel
theorem dL_does_150 : decode cL_does 150 = .ok (.iload_n 2, 1) := by decide +kernel
theorem dL_does_151 : decode cL_does 151 = .ok (.invokevirtual 49, 3) := by decide +kernel
theorem dL_does_155 : decode cL_does 155 = .ok (.astore 5, 2) := by decide +kernel
theorem dL_does_157 : decode cL_does 157 = .ok (.bipush (-30), 2) := by decide +kernel
theorem dL_does_159 : decode cL_does 159 = .ok (.ireturn, 1) := by decide +kernel
theorem dL_asks_0 : decode cL_asks 0 = .ok (.iload_n 1, 1) := by decide +kernel
theorem dL_asks_1 : decode cL_asks 1 = .ok (.ifCond .ne 16, 3) := by decide +kernel
theorem dL_asks_4 : decode cL_asks 4 = .ok (.aload_n 0, 1) := by decide +kernel
theorem dL_asks_5 : decode cL_asks 5 = .ok (.iload_n 2, 1) := by decide +kernel
theorem dL_asks_6 : decode cL_asks 6 = .ok (.iload_n 3, 1) := by decide +kernel
theorem dL_asks_7 : decode cL_asks 7 = .ok (.iload 4, 2) := by decide +kernel
theorem dL_asks_9 : decode cL_asks 9 = .ok (.iload 5, 2) := by decide +kernel
theorem dL_asks_11 : decode cL_asks 11 = .ok (.invokevirtual 62, 3) := by decide +kernel
theorem dL_asks_17 : decode cL_asks 17 = .ok (.iload_n 1, 1) := by decide +kernel
theorem dL_asks_18 : decode cL_asks 18 = .ok (.iconst 1, 1) := by decide +kernel
theorem dL_asks_19 : decode cL_asks 19 = .ok (.if_icmp .ne 16, 3) := by decide +kernel
theorem dL_asks_22 : decode cL_asks 22 = .ok (.aload_n 0, 1) := by decide +kernel
theorem dL_asks_23 : decode cL_asks 23 = .ok (.iload_n 2, 1) := by decide +kernel
theorem dL_asks_24 : decode cL_asks 24 = .ok (.iload_n 3, 1) := by decide +kernel
theorem dL_asks_25 : decode cL_asks 25 = .ok (.iload 4, 2) := by decide +kernel
theorem dL_asks_27 : decode cL_asks 27 = .ok (.iload 5, 2) := by decide +kernel
theorem dL_asks_29 : decode cL_asks 29 = .ok (.invokevirtual 66, 3) := by decide +kernel
theorem dL_asks_35 : decode cL_asks 35 = .ok (.iload_n 1, 1) := by decide +kernel
theorem dL_asks_36 : decode cL_asks 36 = .ok (.iconst 2, 1) := by decide +kernel
theorem dL_asks_37 : decode cL_asks 37 = .ok (.if_icmp .ne 11, 3) := by decide +kernel
theorem dL_asks_48 : decode cL_asks 48 = .ok (.iload_n 1, 1) := by decide +kernel
theorem dL_asks_49 : decode cL_asks 49 = .ok (.iconst 3, 1) := by decide +kernel
theorem dL_asks_50 : decode cL_asks 50 = .ok (.if_icmp .ne 14, 3) := by decide +kernel
theorem dL_asks_53 : decode cL_asks 53 = .ok (.aload_n 0, 1) := by decide +kernel
theorem dL_asks_54 : decode cL_asks 54 = .ok (.iload_n 2, 1) := by decide +kernel
theorem dL_asks_55 : decode cL_asks 55 = .ok (.iload_n 3, 1) := by decide +kernel
theorem dL_asks_56 : decode cL_asks 56 = .ok (.iload 4, 2) := by decide +kernel
theorem dL_asks_58 : decode cL_asks 58 = .ok (.invokevirtual 72, 3) := by decide +kernel
theorem dL_asks_64 : decode cL_asks 64 = .ok (.iload_n 1, 1) := by decide +kernel
theorem dL_asks_65 : decode cL_asks 65 = .ok (.iconst 4, 1) := by decide +kernel
theorem dL_asks_66 : decode cL_asks 66 = .ok (.if_icmp .ne 11, 3) := by decide +kernel
theorem dL_asks_69 : decode cL_asks 69 = .ok (.aload_n 0, 1) := by decide +kernel
theorem dL_asks_70 : decode cL_asks 70 = .ok (.iload_n 2, 1) := by decide +kernel
theorem dL_asks_71 : decode cL_asks 71 = .ok (.invokevirtual 75, 3) := by decide +kernel
theorem dL_asks_77 : decode cL_asks 77 = .ok (.iload_n 1, 1) := by decide +kernel
theorem dL_asks_78 : decode cL_asks 78 = .ok (.iconst 5, 1) := by decide +kernel
theorem dL_asks_79 : decode cL_asks 79 = .ok (.if_icmp .ne 12, 3) := by decide +kernel
theorem dL_asks_82 : decode cL_asks 82 = .ok (.aload_n 0, 1) := by decide +kernel
theorem dL_asks_83 : decode cL_asks 83 = .ok (.iload_n 2, 1) := by decide +kernel
theorem dL_asks_84 : decode cL_asks 84 = .ok (.iload_n 3, 1) := by decide +kernel
theorem dL_asks_85 : decode cL_asks 85 = .ok (.invokevirtual 78, 3) := by decide +kernel
theorem dL_asks_91 : decode cL_asks 91 = .ok (.aload_n 0, 1) := by decide +kernel
theorem dL_asks_92 : decode cL_asks 92 = .ok (.iload_n 2, 1) := by decide +kernel
theorem dL_asks_93 : decode cL_asks 93 = .ok (.invokevirtual 81, 3) := by decide +kernel
theorem dL_asks_97 : decode cL_asks 97 = .ok (.astore 6, 2) := by decide +kernel
theorem dL_asks_99 : decode cL_asks 99 = .ok (.bipush (-30), 2) := by decide +kernel
theorem dL_asks_101 : decode cL_asks 101 = .ok (.ireturn, 1) := by decide +kernel
theorem dL_areShops_0 : decode cL_areShops 0 = .ok (.aload_n 0, 1) := by decide +kernel
theorem dL_areShops_1 : decode cL_areShops 1 = .ok (.iconst 4, 1) := by decide +kernel
theorem dL_areShops_2 : decode cL_areShops 2 = .ok (.iconst 3, 1) := by decide +kernel
theorem dL_areShops_3 : decode cL_areShops 3 = .ok (.iconst 0, 1) := by decide +kernel
theorem dL_areShops_4 : decode cL_areShops 4 = .ok (.iconst 0, 1) := by decide +kernel
theorem dL_areShops_5 : decode cL_areShops 5 = .ok (.iconst 0, 1) := by decide +kernel
theorem dL_areShops_6 : decode cL_areShops 6 = .ok (.invokestatic 91, 3) := by decide +kernel
theorem dL_areShops_9 : decode cL_areShops 9 = .ok (.bipush (-30), 2) := by decide +kernel
theorem dL_areShops_11 : decode cL_areShops 11 = .ok (.if_icmp .ne 83, 3) := by decide +kernel
theorem dL_areShops_14 : decode cL_areShops 14 = .ok (.aload_n 0, 1) := by decide +kernel
theorem dL_areShops_15 : decode cL_areShops 15 = .ok (.iconst 5, 1) := by decide +kernel
theorem dL_areShops_16 : decode cL_areShops 16 = .ok (.iconst 0, 1) := by decide +kernel
theorem dL_areShops_17 : decode cL_areShops 17 = .ok (.iconst 3, 1) := by decide +kernel
theorem dL_areShops_18 : decode cL_areShops 18 = .ok (.iconst 0, 1) := by decide +kernel
theorem dL_areShops_19 : decode cL_areShops 19 = .ok (.iconst 0, 1) := by decide +kernel
theorem dL_areShops_20 : decode cL_areShops 20 = .ok (.invokestatic 91, 3) := by decide +kernel
theorem dL_areShops_23 : decode cL_areShops 23 = .ok (.bipush (-30), 2) := by decide +kernel
theorem dL_areShops_25 : decode cL_areShops 25 = .ok (.if_icmp .ne 69, 3) := by decide +kernel
theorem dL_areShops_28 : decode cL_areShops 28 = .ok (.aload_n 0, 1) := by decide +kernel
theorem dL_areShops_29 : decode cL_areShops 29 = .ok (.bipush 6, 2) := by decide +kernel
theorem dL_areShops_31 : decode cL_areShops 31 = .ok (.iconst (-1), 1) := by decide +kernel
theorem dL_areShops_32 : decode cL_areShops 32 = .ok (.iconst 0, 1) := by decide +kernel
theorem dL_areShops_33 : decode cL_areShops 33 = .ok (.iconst 0, 1) := by decide +kernel
theorem dL_areShops_34 : decode cL_areShops 34 = .ok (.iconst 0, 1) := by decide +kernel
theorem dL_areShops_35 : decode cL_areShops 35 = .ok (.invokestatic 91, 3) := by decide +kernel
theorem dL_areShops_38 : decode cL_areShops 38 = .ok (.bipush (-30), 2) := by decide +kernel
theorem dL_areShops_40 : decode cL_areShops 40 = .ok (.if_icmp .ne 54, 3) := by decide +kernel
theorem dL_areShops_43 : decode cL_areShops 43 = .ok (.aload_n 0, 1) := by decide +kernel
theorem dL_areShops_44 : decode cL_areShops 44 = .ok (.iconst 0, 1) := by decide +kernel
theorem dL_areShops_45 : decode cL_areShops 45 = .ok (.aload_n 3, 1) := by decide +kernel
theorem dL_areShops_46 : decode cL_areShops 46 = .ok (.iconst 0, 1) := by decide +kernel
theorem dL_areShops_47 : decode cL_areShops 47 = .ok (.iaload, 1) := by decide +kernel
theorem dL_areShops_48 : decode cL_areShops 48 = .ok (.iconst 0, 1) := by decide +kernel
theorem dL_areShops_49 : decode cL_areShops 49 = .ok (.iconst 0, 1) := by decide +kernel
theorem dL_areShops_50 : decode cL_areShops 50 = .ok (.iconst 0, 1) := by decide +kernel
theorem dL_areShops_51 : decode cL_areShops 51 = .ok (.invokestatic 91, 3) := by decide +kernel
theorem dL_areShops_54 : decode cL_areShops 54 = .ok (.bipush (-30), 2) := by decide +kernel
theorem dL_areShops_56 : decode cL_areShops 56 = .ok (.if_icmp .ne 38, 3) := by decide +kernel
theorem dL_areShops_59 : decode cL_areShops 59 = .ok (.aload_n 0, 1) := by decide +kernel
theorem dL_areShops_60 : decode cL_areShops 60 = .ok (.iconst 1, 1) := by decide +kernel
theorem dL_areShops_61 : decode cL_areShops 61 = .ok (.iconst 0, 1) := by decide +kernel
theorem dL_areShops_62 : decode cL_areShops 62 = .ok (.bipush 6, 2) := by decide +kernel
theorem dL_areShops_64 : decode cL_areShops 64 = .ok (.iconst 0, 1) := by decide +kernel
theorem dL_areShops_65 : decode cL_areShops 65 = .ok (.iconst 0, 1) := by decide +kernel
theorem dL_areShops_66 : decode cL_areShops 66 = .ok (.invokestatic 91, 3) := by decide +kernel
theorem dL_areShops_69 : decode cL_areShops 69 = .ok (.bipush (-30), 2) := by decide +kernel
theorem dL_areShops_71 : decode cL_areShops 71 = .ok (.if_icmp .ne 23, 3) := by decide +kernel
theorem dL_areShops_74 : decode cL_areShops 74 = .ok (.aload_n 0, 1) := by decide +kernel
theorem dL_areShops_75 : decode cL_areShops 75 = .ok (.iconst 3, 1) := by decide +kernel
theorem dL_areShops_76 : decode cL_areShops 76 = .ok (.aload_n 3, 1) := by decide +kernel
theorem dL_areShops_77 : decode cL_areShops 77 = .ok (.iconst 0, 1) := by decide +kernel
theorem dL_areShops_78 : decode cL_areShops 78 = .ok (.iaload, 1) := by decide +kernel
theorem dL_areShops_79 : decode cL_areShops 79 = .ok (.iconst 0, 1) := by decide +kernel
theorem dL_areShops_80 : decode cL_areShops 80 = .ok (.iconst 0, 1) := by decide +kernel
theorem dL_areShops_81 : decode cL_areShops 81 = .ok (.iconst 0, 1) := by decide +kernel
theorem dL_areShops_82 : decode cL_areShops 82 = .ok (.invokestatic 91, 3) := by decide +kernel
theorem dL_areShops_85 : decode cL_areShops 85 = .ok (.bipush (-30), 2) := by decide +kernel
theorem dL_areShops_87 : decode cL_areShops 87 = .ok (.if_icmp .ne 7, 3) := by decide +kernel
theorem dL_areShops_90 : decode cL_areShops 90 = .ok (.iconst 1, 1) := by decide +kernel
theorem dL_areShops_91 : decode cL_areShops 91 = .ok (.goto 4, 3) := by decide +kernel
theorem dL_areShops_95 : decode cL_areShops 95 = .ok (.istore 4, 2) := by decide +kernel
theorem dL_areShops_97 : decode cL_areShops 97 = .ok (.iconst 0, 1) := by decide +kernel
theorem dL_areShops_98 : decode cL_areShops 98 = .ok (.istore 5, 2) := by decide +kernel
theorem dL_areShops_100 : decode cL_areShops 100 = .ok (.iload 5, 2) := by decide +kernel
theorem dL_areShops_102 : decode cL_areShops 102 = .ok (.iconst 3, 1) := by decide +kernel
theorem dL_areShops_103 : decode cL_areShops 103 = .ok (.if_icmp .ge 365, 3) := by decide +kernel
theorem dL_areShops_106 : decode cL_areShops 106 = .ok (.iload 4, 2) := by decide +kernel
theorem dL_areShops_108 : decode cL_areShops 108 = .ok (.ifCond .eq 360, 3) := by decide +kernel
theorem dL_areShops_111 : decode cL_areShops 111 = .ok (.iconst 0, 1) := by decide +kernel
theorem dL_areShops_112 : decode cL_areShops 112 = .ok (.istore 6, 2) := by decide +kernel
theorem dL_areShops_114 : decode cL_areShops 114 = .ok (.iconst 0, 1) := by decide +kernel
theorem dL_areShops_115 : decode cL_areShops 115 = .ok (.istore 7, 2) := by decide +kernel
theorem dL_areShops_117 : decode cL_areShops 117 = .ok (.iload 7, 2) := by decide +kernel
theorem dL_areShops_119 : decode cL_areShops 119 = .ok (.aload_n 3, 1) := by decide +kernel
theorem dL_areShops_120 : decode cL_areShops 120 = .ok (.iconst 0, 1) := by decide +kernel
theorem dL_areShops_121 : decode cL_areShops 121 = .ok (.iaload, 1) := by decide +kernel
theorem dL_areShops_122 : decode cL_areShops 122 = .ok (.if_icmp .ge 294, 3) := by decide +kernel
theorem dL_areShops_416 : decode cL_areShops 416 = .ok (.iload 4, 2) := by decide +kernel
theorem dL_areShops_418 : decode cL_areShops 418 = .ok (.ifCond .eq 41, 3) := by decide +kernel
theorem dL_areShops_421 : decode cL_areShops 421 = .ok (.aload_n 0, 1) := by decide +kernel
theorem dL_areShops_422 : decode cL_areShops 422 = .ok (.iload 5, 2) := by decide +kernel
theorem dL_areShops_424 : decode cL_areShops 424 = .ok (.invokevirtual 75, 3) := by decide +kernel
theorem dL_areShops_427 : decode cL_areShops 427 = .ok (.iload 6, 2) := by decide +kernel
theorem dL_areShops_429 : decode cL_areShops 429 = .ok (.if_icmp .ne 30, 3) := by decide +kernel
theorem dL_areShops_432 : decode cL_areShops 432 = .ok (.aload_n 0, 1) := by decide +kernel
theorem dL_areShops_433 : decode cL_areShops 433 = .ok (.iload 5, 2) := by decide +kernel
theorem dL_areShops_435 : decode cL_areShops 435 = .ok (.invokevirtual 81, 3) := by decide +kernel
theorem dL_areShops_438 : decode cL_areShops 438 = .ok (.ifCond .lt 21, 3) := by decide +kernel
theorem dL_areShops_441 : decode cL_areShops 441 = .ok (.aload_n 0, 1) := by decide +kernel
theorem dL_areShops_442 : decode cL_areShops 442 = .ok (.iload 5, 2) := by decide +kernel
theorem dL_areShops_444 : decode cL_areShops 444 = .ok (.invokevirtual 81, 3) := by decide +kernel
theorem dL_areShops_447 : decode cL_areShops 447 = .ok (.iconst 1, 1) := by decide +kernel
theorem dL_areShops_448 : decode cL_areShops 448 = .ok (.aload_n 3, 1) := by decide +kernel
theorem dL_areShops_449 : decode cL_areShops 449 = .ok (.iconst 0, 1) := by decide +kernel
theorem dL_areShops_450 : decode cL_areShops 450 = .ok (.iaload, 1) := by decide +kernel
theorem dL_areShops_451 : decode cL_areShops 451 = .ok (.ishl, 1) := by decide +kernel
theorem dL_areShops_452 : decode cL_areShops 452 = .ok (.if_icmp .ge 7, 3) := by decide +kernel
theorem dL_areShops_455 : decode cL_areShops 455 = .ok (.iconst 1, 1) := by decide +kernel
theorem dL_areShops_456 : decode cL_areShops 456 = .ok (.goto 4, 3) := by decide +kernel
theorem dL_areShops_460 : decode cL_areShops 460 = .ok (.istore 4, 2) := by decide +kernel
theorem dL_areShops_462 : decode cL_areShops 462 = .ok (.iinc 5 1, 3) := by decide +kernel
theorem dL_areShops_465 : decode cL_areShops 465 = .ok (.goto (-365), 3) := by decide +kernel
theorem dL_areShops_468 : decode cL_areShops 468 = .ok (.iload 4, 2) := by decide +kernel
theorem dL_areShops_470 : decode cL_areShops 470 = .ok (.ireturn, 1) := by decide +kernel
theorem dL_isDone_0 : decode cL_isDone 0 = .ok (.aload_n 1, 1) := by decide +kernel
theorem dL_isDone_1 : decode cL_isDone 1 = .ok (.iload_n 2, 1) := by decide +kernel
theorem dL_isDone_2 : decode cL_isDone 2 = .ok (.bipush 40, 2) := by decide +kernel
theorem dL_isDone_4 : decode cL_isDone 4 = .ok (.invokestatic 124, 3) := by decide +kernel
theorem dL_isDone_7 : decode cL_isDone 7 = .ok (.istore 9, 2) := by decide +kernel
theorem dL_isDone_9 : decode cL_isDone 9 = .ok (.aload_n 1, 1) := by decide +kernel
theorem dL_isDone_10 : decode cL_isDone 10 = .ok (.iload_n 2, 1) := by decide +kernel
theorem dL_isDone_11 : decode cL_isDone 11 = .ok (.iconst 1, 1) := by decide +kernel
theorem dL_isDone_12 : decode cL_isDone 12 = .ok (.iadd, 1) := by decide +kernel
theorem dL_isDone_13 : decode cL_isDone 13 = .ok (.sipush 6000, 3) := by decide +kernel
theorem dL_isDone_16 : decode cL_isDone 16 = .ok (.invokestatic 124, 3) := by decide +kernel
theorem dL_isDone_19 : decode cL_isDone 19 = .ok (.istore 10, 2) := by decide +kernel
theorem dL_isDone_21 : decode cL_isDone 21 = .ok (.aload_n 1, 1) := by decide +kernel
theorem dL_isDone_22 : decode cL_isDone 22 = .ok (.iload_n 2, 1) := by decide +kernel
theorem dL_isDone_23 : decode cL_isDone 23 = .ok (.iconst 2, 1) := by decide +kernel
theorem dL_isDone_24 : decode cL_isDone 24 = .ok (.iadd, 1) := by decide +kernel
theorem dL_isDone_25 : decode cL_isDone 25 = .ok (.sipush 7000, 3) := by decide +kernel
theorem dL_isDone_28 : decode cL_isDone 28 = .ok (.invokestatic 124, 3) := by decide +kernel
theorem dL_isDone_31 : decode cL_isDone 31 = .ok (.istore 11, 2) := by decide +kernel
theorem dL_isDone_33 : decode cL_isDone 33 = .ok (.aload_n 1, 1) := by decide +kernel
theorem dL_isDone_34 : decode cL_isDone 34 = .ok (.iload_n 2, 1) := by decide +kernel
theorem dL_isDone_35 : decode cL_isDone 35 = .ok (.iconst 3, 1) := by decide +kernel
theorem dL_isDone_36 : decode cL_isDone 36 = .ok (.iadd, 1) := by decide +kernel
theorem dL_isDone_37 : decode cL_isDone 37 = .ok (.sipush 8000, 3) := by decide +kernel
theorem dL_isDone_40 : decode cL_isDone 40 = .ok (.invokestatic 124, 3) := by decide +kernel
theorem dL_isDone_43 : decode cL_isDone 43 = .ok (.istore 12, 2) := by decide +kernel
theorem dL_isDone_45 : decode cL_isDone 45 = .ok (.iload 9, 2) := by decide +kernel
theorem dL_isDone_47 : decode cL_isDone 47 = .ok (.bipush 8, 2) := by decide +kernel
theorem dL_isDone_49 : decode cL_isDone 49 = .ok (.if_icmp .ge 39, 3) := by decide +kernel
theorem dL_isDone_88 : decode cL_isDone 88 = .ok (.iload 9, 2) := by decide +kernel
theorem dL_isDone_90 : decode cL_isDone 90 = .ok (.bipush 11, 2) := by decide +kernel
theorem dL_isDone_92 : decode cL_isDone 92 = .ok (.if_icmp .ge 19, 3) := by decide +kernel
theorem dL_isDone_111 : decode cL_isDone 111 = .ok (.iload 9, 2) := by decide +kernel
theorem dL_isDone_113 : decode cL_isDone 113 = .ok (.bipush 22, 2) := by decide +kernel
theorem dL_isDone_115 : decode cL_isDone 115 = .ok (.if_icmp .ge 38, 3) := by decide +kernel
theorem dL_isDone_153 : decode cL_isDone 153 = .ok (.iload 9, 2) := by decide +kernel
theorem dL_isDone_155 : decode cL_isDone 155 = .ok (.bipush 30, 2) := by decide +kernel
theorem dL_isDone_157 : decode cL_isDone 157 = .ok (.if_icmp .ge 36, 3) := by decide +kernel
theorem dL_isDone_193 : decode cL_isDone 193 = .ok (.iload 9, 2) := by decide +kernel
theorem dL_isDone_195 : decode cL_isDone 195 = .ok (.bipush 30, 2) := by decide +kernel
theorem dL_isDone_197 : decode cL_isDone 197 = .ok (.if_icmp .ne 95, 3) := by decide +kernel
theorem dL_isDone_292 : decode cL_isDone 292 = .ok (.iload 9, 2) := by decide +kernel
theorem dL_isDone_294 : decode cL_isDone 294 = .ok (.bipush 34, 2) := by decide +kernel
theorem dL_isDone_296 : decode cL_isDone 296 = .ok (.if_icmp .ge 93, 3) := by decide +kernel
theorem dL_isDone_389 : decode cL_isDone 389 = .ok (.iload 9, 2) := by decide +kernel
theorem dL_isDone_391 : decode cL_isDone 391 = .ok (.bipush 37, 2) := by decide +kernel
theorem dL_isDone_393 : decode cL_isDone 393 = .ok (.if_icmp .ge 79, 3) := by decide +kernel
theorem dL_isDone_472 : decode cL_isDone 472 = .ok (.iload 10, 2) := by decide +kernel
theorem dL_isDone_474 : decode cL_isDone 474 = .ok (.iconst 4, 1) := by decide +kernel
theorem dL_isDone_475 : decode cL_isDone 475 = .ok (.irem, 1) := by decide +kernel
theorem dL_isDone_476 : decode cL_isDone 476 = .ok (.istore 13, 2) := by decide +kernel
theorem dL_isDone_478 : decode cL_isDone 478 = .ok (.iload 13, 2) := by decide +kernel
theorem dL_isDone_480 : decode cL_isDone 480 = .ok (.iconst 3, 1) := by decide +kernel
theorem dL_isDone_481 : decode cL_isDone 481 = .ok (.if_icmp .ge 12, 3) := by decide +kernel
theorem dL_isDone_493 : decode cL_isDone 493 = .ok (.iconst 0, 1) := by decide +kernel
theorem dL_isDone_494 : decode cL_isDone 494 = .ok (.istore 14, 2) := by decide +kernel
theorem dL_isDone_496 : decode cL_isDone 496 = .ok (.iconst 0, 1) := by decide +kernel
theorem dL_isDone_497 : decode cL_isDone 497 = .ok (.istore 15, 2) := by decide +kernel
theorem dL_isDone_499 : decode cL_isDone 499 = .ok (.iconst 0, 1) := by decide +kernel
theorem dL_isDone_500 : decode cL_isDone 500 = .ok (.istore 16, 2) := by decide +kernel
theorem dL_isDone_502 : decode cL_isDone 502 = .ok (.iload 16, 2) := by decide +kernel
theorem dL_isDone_504 : decode cL_isDone 504 = .ok (.bipush 8, 2) := by decide +kernel
theorem dL_isDone_506 : decode cL_isDone 506 = .ok (.if_icmp .ge 21, 3) := by decide +kernel
theorem dL_isDone_509 : decode cL_isDone 509 = .ok (.iload 15, 2) := by decide +kernel
theorem dL_isDone_511 : decode cL_isDone 511 = .ok (.iload 14, 2) := by decide +kernel
theorem dL_isDone_513 : decode cL_isDone 513 = .ok (.iload 16, 2) := by decide +kernel
theorem dL_isDone_515 : decode cL_isDone 515 = .ok (.ishr, 1) := by decide +kernel
theorem dL_isDone_516 : decode cL_isDone 516 = .ok (.iconst 1, 1) := by decide +kernel
theorem dL_isDone_517 : decode cL_isDone 517 = .ok (.iand, 1) := by decide +kernel
theorem dL_isDone_518 : decode cL_isDone 518 = .ok (.iadd, 1) := by decide +kernel
theorem dL_isDone_519 : decode cL_isDone 519 = .ok (.istore 15, 2) := by decide +kernel
theorem dL_isDone_521 : decode cL_isDone 521 = .ok (.iinc 16 1, 3) := by decide +kernel
theorem dL_isDone_524 : decode cL_isDone 524 = .ok (.goto (-22), 3) := by decide +kernel
theorem dL_isDone_527 : decode cL_isDone 527 = .ok (.aload_n 0, 1) := by decide +kernel
theorem dL_isDone_528 : decode cL_isDone 528 = .ok (.bipush 9, 2) := by decide +kernel
theorem dL_isDone_530 : decode cL_isDone 530 = .ok (.iload 13, 2) := by decide +kernel
theorem dL_isDone_532 : decode cL_isDone 532 = .ok (.iconst 0, 1) := by decide +kernel
theorem dL_isDone_533 : decode cL_isDone 533 = .ok (.iconst 0, 1) := by decide +kernel
theorem dL_isDone_534 : decode cL_isDone 534 = .ok (.invokestatic 110, 3) := by decide +kernel
theorem dL_isDone_537 : decode cL_isDone 537 = .ok (.iload 13, 2) := by decide +kernel
theorem dL_isDone_539 : decode cL_isDone 539 = .ok (.iconst 3, 1) := by decide +kernel
theorem dL_isDone_540 : decode cL_isDone 540 = .ok (.if_icmp .ne 8, 3) := by decide +kernel
theorem dL_isDone_543 : decode cL_isDone 543 = .ok (.bipush (-30), 2) := by decide +kernel
theorem dL_isDone_545 : decode cL_isDone 545 = .ok (.goto 5, 3) := by decide +kernel
theorem dL_isDone_550 : decode cL_isDone 550 = .ok (.if_icmp .ne 31, 3) := by decide +kernel
theorem dL_isDone_553 : decode cL_isDone 553 = .ok (.iload 13, 2) := by decide +kernel
theorem dL_isDone_555 : decode cL_isDone 555 = .ok (.iconst 3, 1) := by decide +kernel
theorem dL_isDone_556 : decode cL_isDone 556 = .ok (.if_icmp .eq 21, 3) := by decide +kernel
theorem dL_isDone_577 : decode cL_isDone 577 = .ok (.iconst 1, 1) := by decide +kernel
theorem dL_isDone_578 : decode cL_isDone 578 = .ok (.goto 4, 3) := by decide +kernel
theorem dL_isDone_582 : decode cL_isDone 582 = .ok (.ireturn, 1) := by decide +kernel
theorem dL_law_0 : decode cL_law 0 = .ok (.new 9, 3) := by decide +kernel
theorem dL_law_3 : decode cL_law 3 = .ok (.dup, 1) := by decide +kernel
theorem dL_law_4 : decode cL_law 4 = .ok (.invokespecial 143, 3) := by decide +kernel
theorem dL_law_7 : decode cL_law 7 = .ok (.astore_n 1, 1) := by decide +kernel
theorem dL_law_8 : decode cL_law 8 = .ok (.bipush 24, 2) := by decide +kernel
theorem dL_law_10 : decode cL_law 10 = .ok (.newarray .int, 2) := by decide +kernel
theorem dL_law_12 : decode cL_law 12 = .ok (.astore_n 2, 1) := by decide +kernel
theorem dL_law_13 : decode cL_law 13 = .ok (.bipush 64, 2) := by decide +kernel
theorem dL_law_15 : decode cL_law 15 = .ok (.newarray .int, 2) := by decide +kernel
theorem dL_law_17 : decode cL_law 17 = .ok (.astore_n 3, 1) := by decide +kernel
theorem dL_law_18 : decode cL_law 18 = .ok (.bipush 60, 2) := by decide +kernel
theorem dL_law_20 : decode cL_law 20 = .ok (.newarray .int, 2) := by decide +kernel
theorem dL_law_22 : decode cL_law 22 = .ok (.astore 4, 2) := by decide +kernel
theorem dL_law_24 : decode cL_law 24 = .ok (.bipush 60, 2) := by decide +kernel
theorem dL_law_26 : decode cL_law 26 = .ok (.newarray .int, 2) := by decide +kernel
theorem dL_law_28 : decode cL_law 28 = .ok (.astore 5, 2) := by decide +kernel
theorem dL_law_30 : decode cL_law 30 = .ok (.iconst 3, 1) := by decide +kernel
theorem dL_law_31 : decode cL_law 31 = .ok (.newarray .int, 2) := by decide +kernel
theorem dL_law_33 : decode cL_law 33 = .ok (.astore 6, 2) := by decide +kernel
theorem dL_law_35 : decode cL_law 35 = .ok (.iconst 3, 1) := by decide +kernel
theorem dL_law_36 : decode cL_law 36 = .ok (.newarray .int, 2) := by decide +kernel
theorem dL_law_38 : decode cL_law 38 = .ok (.astore 7, 2) := by decide +kernel
theorem dL_law_40 : decode cL_law 40 = .ok (.aload_n 1, 1) := by decide +kernel
theorem dL_law_41 : decode cL_law 41 = .ok (.aload_n 2, 1) := by decide +kernel
theorem dL_law_42 : decode cL_law 42 = .ok (.aload_n 3, 1) := by decide +kernel
theorem dL_law_43 : decode cL_law 43 = .ok (.aload 7, 2) := by decide +kernel
theorem dL_law_45 : decode cL_law 45 = .ok (.invokestatic 144, 3) := by decide +kernel
theorem dL_law_48 : decode cL_law 48 = .ok (.istore 8, 2) := by decide +kernel
theorem dL_law_50 : decode cL_law 50 = .ok (.iconst 0, 1) := by decide +kernel
theorem dL_law_51 : decode cL_law 51 = .ok (.istore 9, 2) := by decide +kernel
theorem dL_law_53 : decode cL_law 53 = .ok (.iload 9, 2) := by decide +kernel
theorem dL_law_55 : decode cL_law 55 = .ok (.bipush 60, 2) := by decide +kernel
theorem dL_law_57 : decode cL_law 57 = .ok (.if_icmp .ge 84, 3) := by decide +kernel
theorem dL_law_60 : decode cL_law 60 = .ok (.iload 8, 2) := by decide +kernel
theorem dL_law_62 : decode cL_law 62 = .ok (.ifCond .eq 79, 3) := by decide +kernel
theorem dL_law_65 : decode cL_law 65 = .ok (.aload_n 1, 1) := by decide +kernel
theorem dL_law_66 : decode cL_law 66 = .ok (.aload_n 0, 1) := by decide +kernel
theorem dL_law_67 : decode cL_law 67 = .ok (.iconst 4, 1) := by decide +kernel
theorem dL_law_68 : decode cL_law 68 = .ok (.iload 9, 2) := by decide +kernel
theorem dL_law_70 : decode cL_law 70 = .ok (.imul, 1) := by decide +kernel
theorem dL_law_71 : decode cL_law 71 = .ok (.aload_n 2, 1) := by decide +kernel
theorem dL_law_72 : decode cL_law 72 = .ok (.aload_n 3, 1) := by decide +kernel
theorem dL_law_73 : decode cL_law 73 = .ok (.aload 4, 2) := by decide +kernel
theorem dL_law_75 : decode cL_law 75 = .ok (.aload 5, 2) := by decide +kernel
theorem dL_law_77 : decode cL_law 77 = .ok (.aload 6, 2) := by decide +kernel
theorem dL_law_79 : decode cL_law 79 = .ok (.aload 7, 2) := by decide +kernel
theorem dL_law_81 : decode cL_law 81 = .ok (.invokestatic 148, 3) := by decide +kernel
theorem dL_law_84 : decode cL_law 84 = .ok (.ifCond .eq 48, 3) := by decide +kernel
theorem dL_law_87 : decode cL_law 87 = .ok (.aload_n 1, 1) := by decide +kernel
theorem dL_law_88 : decode cL_law 88 = .ok (.aload_n 2, 1) := by decide +kernel
theorem dL_law_89 : decode cL_law 89 = .ok (.aload_n 3, 1) := by decide +kernel
theorem dL_law_90 : decode cL_law 90 = .ok (.aload 7, 2) := by decide +kernel
theorem dL_law_92 : decode cL_law 92 = .ok (.invokestatic 144, 3) := by decide +kernel
theorem dL_law_95 : decode cL_law 95 = .ok (.ifCond .eq 37, 3) := by decide +kernel
theorem dL_law_98 : decode cL_law 98 = .ok (.aload 7, 2) := by decide +kernel
theorem dL_law_100 : decode cL_law 100 = .ok (.iconst 0, 1) := by decide +kernel
theorem dL_law_101 : decode cL_law 101 = .ok (.iaload, 1) := by decide +kernel
theorem dL_law_102 : decode cL_law 102 = .ok (.ifCond .eq 26, 3) := by decide +kernel
theorem dL_law_128 : decode cL_law 128 = .ok (.iconst 1, 1) := by decide +kernel
theorem dL_law_129 : decode cL_law 129 = .ok (.goto 4, 3) := by decide +kernel
theorem dL_law_133 : decode cL_law 133 = .ok (.istore 8, 2) := by decide +kernel
theorem dL_law_135 : decode cL_law 135 = .ok (.iinc 9 1, 3) := by decide +kernel
theorem dL_law_138 : decode cL_law 138 = .ok (.goto (-85), 3) := by decide +kernel
