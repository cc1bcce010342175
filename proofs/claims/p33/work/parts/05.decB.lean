theorem dX0_init_0 : decode cX0_init 0 = .ok (.aload_n 0, 1) := by decide +kernel
theorem dX0_init_1 : decode cX0_init 1 = .ok (.invokespecial 3, 3) := by decide +kernel
theorem dX0_init_4 : decode cX0_init 4 = .ok (.aload_n 0, 1) := by decide +kernel
theorem dX0_init_5 : decode cX0_init 5 = .ok (.bipush 17, 2) := by decide +kernel
theorem dX0_init_7 : decode cX0_init 7 = .ok (.newarray .long, 2) := by decide +kernel
theorem dX0_init_9 : decode cX0_init 9 = .ok (.putfield 9, 3) := by decide +kernel
theorem dX0_init_12 : decode cX0_init 12 = .ok (.aload_n 0, 1) := by decide +kernel
theorem dX0_init_13 : decode cX0_init 13 = .ok (.bipush 6, 2) := by decide +kernel
theorem dX0_init_15 : decode cX0_init 15 = .ok (.newarray .int, 2) := by decide +kernel
theorem dX0_init_17 : decode cX0_init 17 = .ok (.putfield 15, 3) := by decide +kernel
theorem dX0_init_20 : decode cX0_init 20 = .ok (.return_, 1) := by decide +kernel
theorem dX0_weigh_0 : decode cX0_weigh 0 = .ok (.aload_n 0, 1) := by decide +kernel
theorem dX0_weigh_1 : decode cX0_weigh 1 = .ok (.iconst 0, 1) := by decide +kernel
theorem dX0_weigh_2 : decode cX0_weigh 2 = .ok (.putfield 19, 3) := by decide +kernel
theorem dX0_weigh_5 : decode cX0_weigh 5 = .ok (.aload_n 0, 1) := by decide +kernel
theorem dX0_weigh_6 : decode cX0_weigh 6 = .ok (.lconst 0, 1) := by decide +kernel
theorem dX0_weigh_7 : decode cX0_weigh 7 = .ok (.putfield 23, 3) := by decide +kernel
theorem dX0_weigh_10 : decode cX0_weigh 10 = .ok (.aload_n 1, 1) := by decide +kernel
theorem dX0_weigh_11 : decode cX0_weigh 11 = .ok (.ifnonnull 4, 3) := by decide +kernel
theorem dX0_weigh_14 : decode cX0_weigh 14 = .ok (.return_, 1) := by decide +kernel
theorem dX0_weigh_15 : decode cX0_weigh 15 = .ok (.lconst 0, 1) := by decide +kernel
theorem dX0_weigh_16 : decode cX0_weigh 16 = .ok (.lstore_n 3, 1) := by decide +kernel
theorem dX0_weigh_17 : decode cX0_weigh 17 = .ok (.iconst 0, 1) := by decide +kernel
theorem dX0_weigh_18 : decode cX0_weigh 18 = .ok (.istore 5, 2) := by decide +kernel
theorem dX0_weigh_20 : decode cX0_weigh 20 = .ok (.iload 5, 2) := by decide +kernel
theorem dX0_weigh_22 : decode cX0_weigh 22 = .ok (.aload_n 1, 1) := by decide +kernel
theorem dX0_weigh_23 : decode cX0_weigh 23 = .ok (.getfield 27, 3) := by decide +kernel
theorem dX0_weigh_26 : decode cX0_weigh 26 = .ok (.if_icmp .ge 88, 3) := by decide +kernel
theorem dX0_weigh_29 : decode cX0_weigh 29 = .ok (.iload 5, 2) := by decide +kernel
theorem dX0_weigh_31 : decode cX0_weigh 31 = .ok (.iconst 1, 1) := by decide +kernel
theorem dX0_weigh_32 : decode cX0_weigh 32 = .ok (.iadd, 1) := by decide +kernel
theorem dX0_weigh_33 : decode cX0_weigh 33 = .ok (.aload_n 0, 1) := by decide +kernel
theorem dX0_weigh_34 : decode cX0_weigh 34 = .ok (.getfield 9, 3) := by decide +kernel
theorem dX0_weigh_37 : decode cX0_weigh 37 = .ok (.arraylength, 1) := by decide +kernel
theorem dX0_weigh_38 : decode cX0_weigh 38 = .ok (.if_icmp .ge 76, 3) := by decide +kernel
theorem dX0_weigh_41 : decode cX0_weigh 41 = .ok (.iload_n 2, 1) := by decide +kernel
theorem dX0_weigh_42 : decode cX0_weigh 42 = .ok (.iload 5, 2) := by decide +kernel
theorem dX0_weigh_44 : decode cX0_weigh 44 = .ok (.iadd, 1) := by decide +kernel
theorem dX0_weigh_45 : decode cX0_weigh 45 = .ok (.aload_n 1, 1) := by decide +kernel
theorem dX0_weigh_46 : decode cX0_weigh 46 = .ok (.getfield 27, 3) := by decide +kernel
theorem dX0_weigh_49 : decode cX0_weigh 49 = .ok (.if_icmp .ge 10, 3) := by decide +kernel
theorem dX0_weigh_52 : decode cX0_weigh 52 = .ok (.iload_n 2, 1) := by decide +kernel
theorem dX0_weigh_53 : decode cX0_weigh 53 = .ok (.iload 5, 2) := by decide +kernel
theorem dX0_weigh_55 : decode cX0_weigh 55 = .ok (.iadd, 1) := by decide +kernel
theorem dX0_weigh_56 : decode cX0_weigh 56 = .ok (.goto 12, 3) := by decide +kernel
theorem dX0_weigh_59 : decode cX0_weigh 59 = .ok (.iload_n 2, 1) := by decide +kernel
theorem dX0_weigh_60 : decode cX0_weigh 60 = .ok (.iload 5, 2) := by decide +kernel
theorem dX0_weigh_62 : decode cX0_weigh 62 = .ok (.iadd, 1) := by decide +kernel
theorem dX0_weigh_63 : decode cX0_weigh 63 = .ok (.aload_n 1, 1) := by decide +kernel
theorem dX0_weigh_64 : decode cX0_weigh 64 = .ok (.getfield 27, 3) := by decide +kernel
theorem dX0_weigh_67 : decode cX0_weigh 67 = .ok (.isub, 1) := by decide +kernel
theorem dX0_weigh_68 : decode cX0_weigh 68 = .ok (.istore 6, 2) := by decide +kernel
theorem dX0_weigh_70 : decode cX0_weigh 70 = .ok (.lload_n 3, 1) := by decide +kernel
theorem dX0_weigh_71 : decode cX0_weigh 71 = .ok (.aload_n 1, 1) := by decide +kernel
theorem dX0_weigh_72 : decode cX0_weigh 72 = .ok (.iload 6, 2) := by decide +kernel
theorem dX0_weigh_74 : decode cX0_weigh 74 = .ok (.invokevirtual 32, 3) := by decide +kernel
theorem dX0_weigh_77 : decode cX0_weigh 77 = .ok (.i2l, 1) := by decide +kernel
theorem dX0_weigh_78 : decode cX0_weigh 78 = .ok (.bipush 16, 2) := by decide +kernel
theorem dX0_weigh_80 : decode cX0_weigh 80 = .ok (.aload_n 1, 1) := by decide +kernel
theorem dX0_weigh_81 : decode cX0_weigh 81 = .ok (.iload 6, 2) := by decide +kernel
theorem dX0_weigh_83 : decode cX0_weigh 83 = .ok (.invokevirtual 36, 3) := by decide +kernel
theorem dX0_weigh_86 : decode cX0_weigh 86 = .ok (.imul, 1) := by decide +kernel
theorem dX0_weigh_87 : decode cX0_weigh 87 = .ok (.lshl, 1) := by decide +kernel
theorem dX0_weigh_88 : decode cX0_weigh 88 = .ok (.ladd, 1) := by decide +kernel
theorem dX0_weigh_89 : decode cX0_weigh 89 = .ok (.lstore_n 3, 1) := by decide +kernel
theorem dX0_weigh_90 : decode cX0_weigh 90 = .ok (.aload_n 0, 1) := by decide +kernel
theorem dX0_weigh_91 : decode cX0_weigh 91 = .ok (.getfield 9, 3) := by decide +kernel
theorem dX0_weigh_94 : decode cX0_weigh 94 = .ok (.iload 5, 2) := by decide +kernel
theorem dX0_weigh_96 : decode cX0_weigh 96 = .ok (.iconst 1, 1) := by decide +kernel
theorem dX0_weigh_97 : decode cX0_weigh 97 = .ok (.iadd, 1) := by decide +kernel
theorem dX0_weigh_98 : decode cX0_weigh 98 = .ok (.lload_n 3, 1) := by decide +kernel
theorem dX0_weigh_99 : decode cX0_weigh 99 = .ok (.lastore, 1) := by decide +kernel
theorem dX0_weigh_100 : decode cX0_weigh 100 = .ok (.aload_n 0, 1) := by decide +kernel
theorem dX0_weigh_101 : decode cX0_weigh 101 = .ok (.iload 5, 2) := by decide +kernel
theorem dX0_weigh_103 : decode cX0_weigh 103 = .ok (.iconst 1, 1) := by decide +kernel
theorem dX0_weigh_104 : decode cX0_weigh 104 = .ok (.iadd, 1) := by decide +kernel
theorem dX0_weigh_105 : decode cX0_weigh 105 = .ok (.putfield 19, 3) := by decide +kernel
theorem dX0_weigh_108 : decode cX0_weigh 108 = .ok (.iinc 5 1, 3) := by decide +kernel
theorem dX0_weigh_111 : decode cX0_weigh 111 = .ok (.goto (-91), 3) := by decide +kernel
theorem dX0_weigh_114 : decode cX0_weigh 114 = .ok (.aload_n 0, 1) := by decide +kernel
theorem dX0_weigh_115 : decode cX0_weigh 115 = .ok (.lload_n 3, 1) := by decide +kernel
theorem dX0_weigh_116 : decode cX0_weigh 116 = .ok (.iconst 1, 1) := by decide +kernel
theorem dX0_weigh_117 : decode cX0_weigh 117 = .ok (.lushr, 1) := by decide +kernel
theorem dX0_weigh_118 : decode cX0_weigh 118 = .ok (.putfield 23, 3) := by decide +kernel
theorem dX0_weigh_121 : decode cX0_weigh 121 = .ok (.return_, 1) := by decide +kernel
theorem dX0_sumAhead_0 : decode cX0_sumAhead 0 = .ok (.iload_n 1, 1) := by decide +kernel
theorem dX0_sumAhead_1 : decode cX0_sumAhead 1 = .ok (.ifCond .lt 21, 3) := by decide +kernel
theorem dX0_sumAhead_4 : decode cX0_sumAhead 4 = .ok (.iload_n 1, 1) := by decide +kernel
theorem dX0_sumAhead_5 : decode cX0_sumAhead 5 = .ok (.aload_n 0, 1) := by decide +kernel
theorem dX0_sumAhead_6 : decode cX0_sumAhead 6 = .ok (.getfield 9, 3) := by decide +kernel
theorem dX0_sumAhead_9 : decode cX0_sumAhead 9 = .ok (.arraylength, 1) := by decide +kernel
theorem dX0_sumAhead_10 : decode cX0_sumAhead 10 = .ok (.if_icmp .ge 12, 3) := by decide +kernel
theorem dX0_sumAhead_13 : decode cX0_sumAhead 13 = .ok (.aload_n 0, 1) := by decide +kernel
theorem dX0_sumAhead_14 : decode cX0_sumAhead 14 = .ok (.getfield 9, 3) := by decide +kernel
theorem dX0_sumAhead_17 : decode cX0_sumAhead 17 = .ok (.iload_n 1, 1) := by decide +kernel
theorem dX0_sumAhead_18 : decode cX0_sumAhead 18 = .ok (.laload, 1) := by decide +kernel
theorem dX0_sumAhead_19 : decode cX0_sumAhead 19 = .ok (.goto 4, 3) := by decide +kernel
theorem dX0_sumAhead_22 : decode cX0_sumAhead 22 = .ok (.lconst 0, 1) := by decide +kernel
theorem dX0_sumAhead_23 : decode cX0_sumAhead 23 = .ok (.lreturn, 1) := by decide +kernel
theorem dX0_isOddOfAKind_0 : decode cX0_isOddOfAKind 0 = .ok (.aload_n 0, 1) := by decide +kernel
theorem dX0_isOddOfAKind_1 : decode cX0_isOddOfAKind 1 = .ok (.aload_n 0, 1) := by decide +kernel
theorem dX0_isOddOfAKind_2 : decode cX0_isOddOfAKind 2 = .ok (.getfield 19, 3) := by decide +kernel
theorem dX0_isOddOfAKind_5 : decode cX0_isOddOfAKind 5 = .ok (.invokevirtual 39, 3) := by decide +kernel
theorem dX0_isOddOfAKind_8 : decode cX0_isOddOfAKind 8 = .ok (.ldc2_w 43, 3) := by decide +kernel
theorem dX0_isOddOfAKind_11 : decode cX0_isOddOfAKind 11 = .ok (.land, 1) := by decide +kernel
theorem dX0_isOddOfAKind_12 : decode cX0_isOddOfAKind 12 = .ok (.lconst 0, 1) := by decide +kernel
theorem dX0_isOddOfAKind_13 : decode cX0_isOddOfAKind 13 = .ok (.lcmp, 1) := by decide +kernel
theorem dX0_isOddOfAKind_14 : decode cX0_isOddOfAKind 14 = .ok (.ifCond .eq 7, 3) := by decide +kernel
theorem dX0_isOddOfAKind_17 : decode cX0_isOddOfAKind 17 = .ok (.iconst 1, 1) := by decide +kernel
theorem dX0_isOddOfAKind_18 : decode cX0_isOddOfAKind 18 = .ok (.goto 4, 3) := by decide +kernel
theorem dX0_isOddOfAKind_21 : decode cX0_isOddOfAKind 21 = .ok (.iconst 0, 1) := by decide +kernel
theorem dX0_isOddOfAKind_22 : decode cX0_isOddOfAKind 22 = .ok (.ireturn, 1) := by decide +kernel
theorem dX0_isOverHalf_0 : decode cX0_isOverHalf 0 = .ok (.aload_n 0, 1) := by decide +kernel
theorem dX0_isOverHalf_1 : decode cX0_isOverHalf 1 = .ok (.getfield 23, 3) := by decide +kernel
theorem dX0_isOverHalf_4 : decode cX0_isOverHalf 4 = .ok (.ldc2_w 45, 3) := by decide +kernel
theorem dX0_isOverHalf_7 : decode cX0_isOverHalf 7 = .ok (.lor, 1) := by decide +kernel
theorem dX0_isOverHalf_8 : decode cX0_isOverHalf 8 = .ok (.lload_n 1, 1) := by decide +kernel
theorem dX0_isOverHalf_9 : decode cX0_isOverHalf 9 = .ok (.lsub, 1) := by decide +kernel
theorem dX0_isOverHalf_10 : decode cX0_isOverHalf 10 = .ok (.ldc2_w 45, 3) := by decide +kernel
theorem dX0_isOverHalf_13 : decode cX0_isOverHalf 13 = .ok (.land, 1) := by decide +kernel
theorem dX0_isOverHalf_14 : decode cX0_isOverHalf 14 = .ok (.ldc2_w 45, 3) := by decide +kernel
theorem dX0_isOverHalf_17 : decode cX0_isOverHalf 17 = .ok (.lcmp, 1) := by decide +kernel
theorem dX0_isOverHalf_18 : decode cX0_isOverHalf 18 = .ok (.ifCond .eq 7, 3) := by decide +kernel
theorem dX0_isOverHalf_21 : decode cX0_isOverHalf 21 = .ok (.iconst 1, 1) := by decide +kernel
theorem dX0_isOverHalf_22 : decode cX0_isOverHalf 22 = .ok (.goto 4, 3) := by decide +kernel
theorem dX0_isOverHalf_25 : decode cX0_isOverHalf 25 = .ok (.iconst 0, 1) := by decide +kernel
theorem dX0_isOverHalf_26 : decode cX0_isOverHalf 26 = .ok (.ireturn, 1) := by decide +kernel
theorem dX0_keepCut_0 : decode cX0_keepCut 0 = .ok (.iload_n 1, 1) := by decide +kernel
theorem dX0_keepCut_1 : decode cX0_keepCut 1 = .ok (.ifCond .lt 19, 3) := by decide +kernel
theorem dX0_keepCut_4 : decode cX0_keepCut 4 = .ok (.iload_n 1, 1) := by decide +kernel
theorem dX0_keepCut_5 : decode cX0_keepCut 5 = .ok (.aload_n 0, 1) := by decide +kernel
theorem dX0_keepCut_6 : decode cX0_keepCut 6 = .ok (.getfield 15, 3) := by decide +kernel
theorem dX0_keepCut_9 : decode cX0_keepCut 9 = .ok (.arraylength, 1) := by decide +kernel
theorem dX0_keepCut_10 : decode cX0_keepCut 10 = .ok (.if_icmp .ge 10, 3) := by decide +kernel
theorem dX0_keepCut_13 : decode cX0_keepCut 13 = .ok (.aload_n 0, 1) := by decide +kernel
theorem dX0_keepCut_14 : decode cX0_keepCut 14 = .ok (.getfield 15, 3) := by decide +kernel
theorem dX0_keepCut_17 : decode cX0_keepCut 17 = .ok (.iload_n 1, 1) := by decide +kernel
theorem dX0_keepCut_18 : decode cX0_keepCut 18 = .ok (.iload_n 2, 1) := by decide +kernel
theorem dX0_keepCut_19 : decode cX0_keepCut 19 = .ok (.iastore, 1) := by decide +kernel
theorem dX0_keepCut_20 : decode cX0_keepCut 20 = .ok (.return_, 1) := by decide +kernel
theorem dX0_foundCut_0 : decode cX0_foundCut 0 = .ok (.iload_n 1, 1) := by decide +kernel
theorem dX0_foundCut_1 : decode cX0_foundCut 1 = .ok (.ifCond .lt 21, 3) := by decide +kernel
theorem dX0_foundCut_4 : decode cX0_foundCut 4 = .ok (.iload_n 1, 1) := by decide +kernel
theorem dX0_foundCut_5 : decode cX0_foundCut 5 = .ok (.aload_n 0, 1) := by decide +kernel
theorem dX0_foundCut_6 : decode cX0_foundCut 6 = .ok (.getfield 15, 3) := by decide +kernel
theorem dX0_foundCut_9 : decode cX0_foundCut 9 = .ok (.arraylength, 1) := by decide +kernel
theorem dX0_foundCut_10 : decode cX0_foundCut 10 = .ok (.if_icmp .ge 12, 3) := by decide +kernel
theorem dX0_foundCut_13 : decode cX0_foundCut 13 = .ok (.aload_n 0, 1) := by decide +kernel
theorem dX0_foundCut_14 : decode cX0_foundCut 14 = .ok (.getfield 15, 3) := by decide +kernel
theorem dX0_foundCut_17 : decode cX0_foundCut 17 = .ok (.iload_n 1, 1) := by decide +kernel
theorem dX0_foundCut_18 : decode cX0_foundCut 18 = .ok (.iaload, 1) := by decide +kernel
theorem dX0_foundCut_19 : decode cX0_foundCut 19 = .ok (.goto 4, 3) := by decide +kernel
theorem dX0_foundCut_22 : decode cX0_foundCut 22 = .ok (.iconst (-1), 1) := by decide +kernel
theorem dX0_foundCut_23 : decode cX0_foundCut 23 = .ok (.ireturn, 1) := by decide +kernel
theorem dX0_fewestByCuts_0 : decode cX0_fewestByCuts 0 = .ok (.aload_n 0, 1) := by decide +kernel
theorem dX0_fewestByCuts_1 : decode cX0_fewestByCuts 1 = .ok (.invokevirtual 47, 3) := by decide +kernel
theorem dX0_fewestByCuts_4 : decode cX0_fewestByCuts 4 = .ok (.ifCond .eq 5, 3) := by decide +kernel
theorem dX0_fewestByCuts_7 : decode cX0_fewestByCuts 7 = .ok (.iconst (-1), 1) := by decide +kernel
theorem dX0_fewestByCuts_8 : decode cX0_fewestByCuts 8 = .ok (.ireturn, 1) := by decide +kernel
theorem dX0_fewestByCuts_9 : decode cX0_fewestByCuts 9 = .ok (.iconst 0, 1) := by decide +kernel
theorem dX0_fewestByCuts_10 : decode cX0_fewestByCuts 10 = .ok (.istore_n 2, 1) := by decide +kernel
theorem dX0_fewestByCuts_11 : decode cX0_fewestByCuts 11 = .ok (.iload_n 2, 1) := by decide +kernel
theorem dX0_fewestByCuts_12 : decode cX0_fewestByCuts 12 = .ok (.iload_n 1, 1) := by decide +kernel
theorem dX0_fewestByCuts_13 : decode cX0_fewestByCuts 13 = .ok (.if_icmp .gt 28, 3) := by decide +kernel
theorem dX0_fewestByCuts_16 : decode cX0_fewestByCuts 16 = .ok (.iload_n 2, 1) := by decide +kernel
theorem dX0_fewestByCuts_17 : decode cX0_fewestByCuts 17 = .ok (.bipush 6, 2) := by decide +kernel
theorem dX0_fewestByCuts_19 : decode cX0_fewestByCuts 19 = .ok (.if_icmp .gt 22, 3) := by decide +kernel
theorem dX0_fewestByCuts_22 : decode cX0_fewestByCuts 22 = .ok (.aload_n 0, 1) := by decide +kernel
theorem dX0_fewestByCuts_23 : decode cX0_fewestByCuts 23 = .ok (.iload_n 2, 1) := by decide +kernel
theorem dX0_fewestByCuts_24 : decode cX0_fewestByCuts 24 = .ok (.iconst 0, 1) := by decide +kernel
theorem dX0_fewestByCuts_25 : decode cX0_fewestByCuts 25 = .ok (.iconst 0, 1) := by decide +kernel
theorem dX0_fewestByCuts_26 : decode cX0_fewestByCuts 26 = .ok (.lconst 0, 1) := by decide +kernel
theorem dX0_fewestByCuts_27 : decode cX0_fewestByCuts 27 = .ok (.invokestatic 51, 3) := by decide +kernel
theorem dX0_fewestByCuts_30 : decode cX0_fewestByCuts 30 = .ok (.ifCond .eq 5, 3) := by decide +kernel
theorem dX0_fewestByCuts_33 : decode cX0_fewestByCuts 33 = .ok (.iload_n 2, 1) := by decide +kernel
theorem dX0_fewestByCuts_34 : decode cX0_fewestByCuts 34 = .ok (.ireturn, 1) := by decide +kernel
theorem dX0_fewestByCuts_35 : decode cX0_fewestByCuts 35 = .ok (.iinc 2 1, 3) := by decide +kernel
theorem dX0_fewestByCuts_38 : decode cX0_fewestByCuts 38 = .ok (.goto (-27), 3) := by decide +kernel
theorem dX0_fewestByCuts_41 : decode cX0_fewestByCuts 41 = .ok (.iconst (-1), 1) := by decide +kernel
theorem dX0_fewestByCuts_42 : decode cX0_fewestByCuts 42 = .ok (.ireturn, 1) := by decide +kernel
theorem dX0_withRun_0 : decode cX0_withRun 0 = .ok (.iload_n 3, 1) := by decide +kernel
theorem dX0_withRun_1 : decode cX0_withRun 1 = .ok (.iconst 1, 1) := by decide +kernel
theorem dX0_withRun_2 : decode cX0_withRun 2 = .ok (.iand, 1) := by decide +kernel
theorem dX0_withRun_3 : decode cX0_withRun 3 = .ok (.ifCond .ne 21, 3) := by decide +kernel
theorem dX0_withRun_6 : decode cX0_withRun 6 = .ok (.lload_n 1, 1) := by decide +kernel
theorem dX0_withRun_7 : decode cX0_withRun 7 = .ok (.aload_n 0, 1) := by decide +kernel
theorem dX0_withRun_8 : decode cX0_withRun 8 = .ok (.iload 5, 2) := by decide +kernel
theorem dX0_withRun_10 : decode cX0_withRun 10 = .ok (.invokevirtual 39, 3) := by decide +kernel
theorem dX0_withRun_13 : decode cX0_withRun 13 = .ok (.ladd, 1) := by decide +kernel
theorem dX0_withRun_14 : decode cX0_withRun 14 = .ok (.aload_n 0, 1) := by decide +kernel
theorem dX0_withRun_15 : decode cX0_withRun 15 = .ok (.iload 4, 2) := by decide +kernel
theorem dX0_withRun_17 : decode cX0_withRun 17 = .ok (.invokevirtual 39, 3) := by decide +kernel
theorem dX0_withRun_20 : decode cX0_withRun 20 = .ok (.lsub, 1) := by decide +kernel
theorem dX0_withRun_21 : decode cX0_withRun 21 = .ok (.goto 4, 3) := by decide +kernel
theorem dX0_withRun_24 : decode cX0_withRun 24 = .ok (.lload_n 1, 1) := by decide +kernel
theorem dX0_withRun_25 : decode cX0_withRun 25 = .ok (.lreturn, 1) := by decide +kernel
theorem dX0_dividesWith_0 : decode cX0_dividesWith 0 = .ok (.iload_n 2, 1) := by decide +kernel
theorem dX0_dividesWith_1 : decode cX0_dividesWith 1 = .ok (.iload_n 1, 1) := by decide +kernel
theorem dX0_dividesWith_2 : decode cX0_dividesWith 2 = .ok (.if_icmp .lt 29, 3) := by decide +kernel
theorem dX0_dividesWith_5 : decode cX0_dividesWith 5 = .ok (.aload_n 0, 1) := by decide +kernel
theorem dX0_dividesWith_6 : decode cX0_dividesWith 6 = .ok (.lload 4, 2) := by decide +kernel
theorem dX0_dividesWith_8 : decode cX0_dividesWith 8 = .ok (.iload_n 2, 1) := by decide +kernel
theorem dX0_dividesWith_9 : decode cX0_dividesWith 9 = .ok (.iload_n 3, 1) := by decide +kernel
theorem dX0_dividesWith_10 : decode cX0_dividesWith 10 = .ok (.aload_n 0, 1) := by decide +kernel
theorem dX0_dividesWith_11 : decode cX0_dividesWith 11 = .ok (.getfield 19, 3) := by decide +kernel
theorem dX0_dividesWith_14 : decode cX0_dividesWith 14 = .ok (.invokevirtual 55, 3) := by decide +kernel
theorem dX0_dividesWith_17 : decode cX0_dividesWith 17 = .ok (.aload_n 0, 1) := by decide +kernel
theorem dX0_dividesWith_18 : decode cX0_dividesWith 18 = .ok (.getfield 23, 3) := by decide +kernel
theorem dX0_dividesWith_21 : decode cX0_dividesWith 21 = .ok (.lcmp, 1) := by decide +kernel
theorem dX0_dividesWith_22 : decode cX0_dividesWith 22 = .ok (.ifCond .ne 7, 3) := by decide +kernel
theorem dX0_dividesWith_25 : decode cX0_dividesWith 25 = .ok (.iconst 1, 1) := by decide +kernel
theorem dX0_dividesWith_26 : decode cX0_dividesWith 26 = .ok (.goto 4, 3) := by decide +kernel
theorem dX0_dividesWith_29 : decode cX0_dividesWith 29 = .ok (.iconst 0, 1) := by decide +kernel
theorem dX0_dividesWith_30 : decode cX0_dividesWith 30 = .ok (.ireturn, 1) := by decide +kernel
theorem dX0_dividesWith_31 : decode cX0_dividesWith 31 = .ok (.iload_n 3, 1) := by decide +kernel
theorem dX0_dividesWith_32 : decode cX0_dividesWith 32 = .ok (.iconst 1, 1) := by decide +kernel
theorem dX0_dividesWith_33 : decode cX0_dividesWith 33 = .ok (.iadd, 1) := by decide +kernel
theorem dX0_dividesWith_34 : decode cX0_dividesWith 34 = .ok (.istore 6, 2) := by decide +kernel
theorem dX0_dividesWith_36 : decode cX0_dividesWith 36 = .ok (.iload 6, 2) := by decide +kernel
theorem dX0_dividesWith_38 : decode cX0_dividesWith 38 = .ok (.aload_n 0, 1) := by decide +kernel
theorem dX0_dividesWith_39 : decode cX0_dividesWith 39 = .ok (.getfield 19, 3) := by decide +kernel
theorem dX0_dividesWith_42 : decode cX0_dividesWith 42 = .ok (.if_icmp .ge 72, 3) := by decide +kernel
theorem dX0_dividesWith_45 : decode cX0_dividesWith 45 = .ok (.aload_n 0, 1) := by decide +kernel
theorem dX0_dividesWith_46 : decode cX0_dividesWith 46 = .ok (.lload 4, 2) := by decide +kernel
theorem dX0_dividesWith_48 : decode cX0_dividesWith 48 = .ok (.iload_n 2, 1) := by decide +kernel
theorem dX0_dividesWith_49 : decode cX0_dividesWith 49 = .ok (.iload_n 3, 1) := by decide +kernel
theorem dX0_dividesWith_50 : decode cX0_dividesWith 50 = .ok (.iload 6, 2) := by decide +kernel
theorem dX0_dividesWith_52 : decode cX0_dividesWith 52 = .ok (.invokevirtual 55, 3) := by decide +kernel
theorem dX0_dividesWith_55 : decode cX0_dividesWith 55 = .ok (.lstore 7, 2) := by decide +kernel
theorem dX0_dividesWith_57 : decode cX0_dividesWith 57 = .ok (.aload_n 0, 1) := by decide +kernel
theorem dX0_dividesWith_58 : decode cX0_dividesWith 58 = .ok (.lload 7, 2) := by decide +kernel
theorem dX0_dividesWith_60 : decode cX0_dividesWith 60 = .ok (.invokevirtual 59, 3) := by decide +kernel
theorem dX0_dividesWith_63 : decode cX0_dividesWith 63 = .ok (.ifCond .ne 19, 3) := by decide +kernel
theorem dX0_dividesWith_66 : decode cX0_dividesWith 66 = .ok (.aload_n 0, 1) := by decide +kernel
theorem dX0_dividesWith_67 : decode cX0_dividesWith 67 = .ok (.aload_n 0, 1) := by decide +kernel
theorem dX0_dividesWith_68 : decode cX0_dividesWith 68 = .ok (.iload 6, 2) := by decide +kernel
theorem dX0_dividesWith_70 : decode cX0_dividesWith 70 = .ok (.invokevirtual 39, 3) := by decide +kernel
theorem dX0_dividesWith_73 : decode cX0_dividesWith 73 = .ok (.lload 7, 2) := by decide +kernel
theorem dX0_dividesWith_75 : decode cX0_dividesWith 75 = .ok (.lsub, 1) := by decide +kernel
theorem dX0_dividesWith_76 : decode cX0_dividesWith 76 = .ok (.invokevirtual 59, 3) := by decide +kernel
theorem dX0_dividesWith_79 : decode cX0_dividesWith 79 = .ok (.ifCond .eq 5, 3) := by decide +kernel
theorem dX0_dividesWith_82 : decode cX0_dividesWith 82 = .ok (.iconst 0, 1) := by decide +kernel
theorem dX0_dividesWith_83 : decode cX0_dividesWith 83 = .ok (.ireturn, 1) := by decide +kernel
theorem dX0_dividesWith_84 : decode cX0_dividesWith 84 = .ok (.aload_n 0, 1) := by decide +kernel
theorem dX0_dividesWith_85 : decode cX0_dividesWith 85 = .ok (.iload_n 1, 1) := by decide +kernel
theorem dX0_dividesWith_86 : decode cX0_dividesWith 86 = .ok (.iload_n 2, 1) := by decide +kernel
theorem dX0_dividesWith_87 : decode cX0_dividesWith 87 = .ok (.iconst 1, 1) := by decide +kernel
theorem dX0_dividesWith_88 : decode cX0_dividesWith 88 = .ok (.iadd, 1) := by decide +kernel
theorem dX0_dividesWith_89 : decode cX0_dividesWith 89 = .ok (.iload 6, 2) := by decide +kernel
theorem dX0_dividesWith_91 : decode cX0_dividesWith 91 = .ok (.lload 7, 2) := by decide +kernel
theorem dX0_dividesWith_93 : decode cX0_dividesWith 93 = .ok (.invokestatic 51, 3) := by decide +kernel
theorem dX0_dividesWith_96 : decode cX0_dividesWith 96 = .ok (.ifCond .eq 12, 3) := by decide +kernel
theorem dX0_dividesWith_99 : decode cX0_dividesWith 99 = .ok (.aload_n 0, 1) := by decide +kernel
theorem dX0_dividesWith_100 : decode cX0_dividesWith 100 = .ok (.iload_n 2, 1) := by decide +kernel
theorem dX0_dividesWith_101 : decode cX0_dividesWith 101 = .ok (.iload 6, 2) := by decide +kernel
theorem dX0_dividesWith_103 : decode cX0_dividesWith 103 = .ok (.invokevirtual 63, 3) := by decide +kernel
theorem dX0_dividesWith_106 : decode cX0_dividesWith 106 = .ok (.iconst 1, 1) := by decide +kernel
theorem dX0_dividesWith_107 : decode cX0_dividesWith 107 = .ok (.ireturn, 1) := by decide +kernel
theorem dX0_dividesWith_108 : decode cX0_dividesWith 108 = .ok (.iinc 6 1, 3) := by decide +kernel
theorem dX0_dividesWith_111 : decode cX0_dividesWith 111 = .ok (.goto (-75), 3) := by decide +kernel
theorem dX0_dividesWith_114 : decode cX0_dividesWith 114 = .ok (.iconst 0, 1) := by decide +kernel
theorem dX0_dividesWith_115 : decode cX0_dividesWith 115 = .ok (.ireturn, 1) := by decide +kernel
theorem dX0_fewestByOwners_0 : decode cX0_fewestByOwners 0 = .ok (.aload_n 0, 1) := by decide +kernel
theorem dX0_fewestByOwners_1 : decode cX0_fewestByOwners 1 = .ok (.getfield 19, 3) := by decide +kernel
theorem dX0_fewestByOwners_4 : decode cX0_fewestByOwners 4 = .ok (.ifCond .ne 5, 3) := by decide +kernel
theorem dX0_fewestByOwners_7 : decode cX0_fewestByOwners 7 = .ok (.iconst 0, 1) := by decide +kernel
theorem dX0_fewestByOwners_8 : decode cX0_fewestByOwners 8 = .ok (.ireturn, 1) := by decide +kernel
theorem dX0_fewestByOwners_9 : decode cX0_fewestByOwners 9 = .ok (.aload_n 0, 1) := by decide +kernel
theorem dX0_fewestByOwners_10 : decode cX0_fewestByOwners 10 = .ok (.invokevirtual 47, 3) := by decide +kernel
theorem dX0_fewestByOwners_13 : decode cX0_fewestByOwners 13 = .ok (.ifCond .eq 5, 3) := by decide +kernel
theorem dX0_fewestByOwners_16 : decode cX0_fewestByOwners 16 = .ok (.iconst (-1), 1) := by decide +kernel
theorem dX0_fewestByOwners_17 : decode cX0_fewestByOwners 17 = .ok (.ireturn, 1) := by decide +kernel
theorem dX0_fewestByOwners_18 : decode cX0_fewestByOwners 18 = .ok (.bipush 7, 2) := by decide +kernel
theorem dX0_fewestByOwners_20 : decode cX0_fewestByOwners 20 = .ok (.istore_n 1, 1) := by decide +kernel
theorem dX0_fewestByOwners_21 : decode cX0_fewestByOwners 21 = .ok (.iconst 0, 1) := by decide +kernel
theorem dX0_fewestByOwners_22 : decode cX0_fewestByOwners 22 = .ok (.istore_n 2, 1) := by decide +kernel
theorem dX0_fewestByOwners_23 : decode cX0_fewestByOwners 23 = .ok (.lconst 0, 1) := by decide +kernel
theorem dX0_fewestByOwners_24 : decode cX0_fewestByOwners 24 = .ok (.lstore_n 3, 1) := by decide +kernel
theorem dX0_fewestByOwners_25 : decode cX0_fewestByOwners 25 = .ok (.iconst 1, 1) := by decide +kernel
theorem dX0_fewestByOwners_26 : decode cX0_fewestByOwners 26 = .ok (.istore 5, 2) := by decide +kernel
theorem dX0_fewestByOwners_28 : decode cX0_fewestByOwners 28 = .ok (.iload 5, 2) := by decide +kernel
theorem dX0_fewestByOwners_30 : decode cX0_fewestByOwners 30 = .ok (.iconst 1, 1) := by decide +kernel
theorem dX0_fewestByOwners_31 : decode cX0_fewestByOwners 31 = .ok (.aload_n 0, 1) := by decide +kernel
theorem dX0_fewestByOwners_32 : decode cX0_fewestByOwners 32 = .ok (.getfield 19, 3) := by decide +kernel
theorem dX0_fewestByOwners_35 : decode cX0_fewestByOwners 35 = .ok (.iconst 1, 1) := by decide +kernel
theorem dX0_fewestByOwners_36 : decode cX0_fewestByOwners 36 = .ok (.isub, 1) := by decide +kernel
theorem dX0_fewestByOwners_37 : decode cX0_fewestByOwners 37 = .ok (.ishl, 1) := by decide +kernel
theorem dX0_fewestByOwners_38 : decode cX0_fewestByOwners 38 = .ok (.if_icmp .ge 82, 3) := by decide +kernel
theorem dX0_fewestByOwners_41 : decode cX0_fewestByOwners 41 = .ok (.iload 5, 2) := by decide +kernel
theorem dX0_fewestByOwners_43 : decode cX0_fewestByOwners 43 = .ok (.invokestatic 67, 3) := by decide +kernel
theorem dX0_fewestByOwners_46 : decode cX0_fewestByOwners 46 = .ok (.istore 6, 2) := by decide +kernel
theorem dX0_fewestByOwners_48 : decode cX0_fewestByOwners 48 = .ok (.aload_n 0, 1) := by decide +kernel
theorem dX0_fewestByOwners_49 : decode cX0_fewestByOwners 49 = .ok (.iload 6, 2) := by decide +kernel
theorem dX0_fewestByOwners_51 : decode cX0_fewestByOwners 51 = .ok (.iconst 1, 1) := by decide +kernel
theorem dX0_fewestByOwners_52 : decode cX0_fewestByOwners 52 = .ok (.iadd, 1) := by decide +kernel
theorem dX0_fewestByOwners_53 : decode cX0_fewestByOwners 53 = .ok (.invokevirtual 39, 3) := by decide +kernel
theorem dX0_fewestByOwners_56 : decode cX0_fewestByOwners 56 = .ok (.aload_n 0, 1) := by decide +kernel
theorem dX0_fewestByOwners_57 : decode cX0_fewestByOwners 57 = .ok (.iload 6, 2) := by decide +kernel
theorem dX0_fewestByOwners_59 : decode cX0_fewestByOwners 59 = .ok (.invokevirtual 39, 3) := by decide +kernel
theorem dX0_fewestByOwners_62 : decode cX0_fewestByOwners 62 = .ok (.lsub, 1) := by decide +kernel
theorem dX0_fewestByOwners_63 : decode cX0_fewestByOwners 63 = .ok (.lstore 7, 2) := by decide +kernel
theorem dX0_fewestByOwners_65 : decode cX0_fewestByOwners 65 = .ok (.iload_n 2, 1) := by decide +kernel
theorem dX0_fewestByOwners_66 : decode cX0_fewestByOwners 66 = .ok (.iconst 1, 1) := by decide +kernel
theorem dX0_fewestByOwners_67 : decode cX0_fewestByOwners 67 = .ok (.iload 6, 2) := by decide +kernel
theorem dX0_fewestByOwners_69 : decode cX0_fewestByOwners 69 = .ok (.ishl, 1) := by decide +kernel
theorem dX0_fewestByOwners_70 : decode cX0_fewestByOwners 70 = .ok (.ixor, 1) := by decide +kernel
theorem dX0_fewestByOwners_71 : decode cX0_fewestByOwners 71 = .ok (.istore_n 2, 1) := by decide +kernel
theorem dX0_fewestByOwners_72 : decode cX0_fewestByOwners 72 = .ok (.lload_n 3, 1) := by decide +kernel
theorem dX0_fewestByOwners_73 : decode cX0_fewestByOwners 73 = .ok (.iload_n 2, 1) := by decide +kernel
theorem dX0_fewestByOwners_74 : decode cX0_fewestByOwners 74 = .ok (.iload 6, 2) := by decide +kernel
theorem dX0_fewestByOwners_76 : decode cX0_fewestByOwners 76 = .ok (.iushr, 1) := by decide +kernel
theorem dX0_fewestByOwners_77 : decode cX0_fewestByOwners 77 = .ok (.iconst 1, 1) := by decide +kernel
theorem dX0_fewestByOwners_78 : decode cX0_fewestByOwners 78 = .ok (.iand, 1) := by decide +kernel
theorem dX0_fewestByOwners_79 : decode cX0_fewestByOwners 79 = .ok (.ifCond .eq 8, 3) := by decide +kernel
theorem dX0_fewestByOwners_82 : decode cX0_fewestByOwners 82 = .ok (.lload 7, 2) := by decide +kernel
theorem dX0_fewestByOwners_84 : decode cX0_fewestByOwners 84 = .ok (.goto 6, 3) := by decide +kernel
theorem dX0_fewestByOwners_87 : decode cX0_fewestByOwners 87 = .ok (.lload 7, 2) := by decide +kernel
theorem dX0_fewestByOwners_89 : decode cX0_fewestByOwners 89 = .ok (.lneg, 1) := by decide +kernel
theorem dX0_fewestByOwners_90 : decode cX0_fewestByOwners 90 = .ok (.ladd, 1) := by decide +kernel
theorem dX0_fewestByOwners_91 : decode cX0_fewestByOwners 91 = .ok (.lstore_n 3, 1) := by decide +kernel
theorem dX0_fewestByOwners_92 : decode cX0_fewestByOwners 92 = .ok (.lload_n 3, 1) := by decide +kernel
theorem dX0_fewestByOwners_93 : decode cX0_fewestByOwners 93 = .ok (.aload_n 0, 1) := by decide +kernel
theorem dX0_fewestByOwners_94 : decode cX0_fewestByOwners 94 = .ok (.getfield 23, 3) := by decide +kernel
theorem dX0_fewestByOwners_97 : decode cX0_fewestByOwners 97 = .ok (.lcmp, 1) := by decide +kernel
theorem dX0_fewestByOwners_98 : decode cX0_fewestByOwners 98 = .ok (.ifCond .ne 16, 3) := by decide +kernel
theorem dX0_fewestByOwners_101 : decode cX0_fewestByOwners 101 = .ok (.iload_n 1, 1) := by decide +kernel
theorem dX0_fewestByOwners_102 : decode cX0_fewestByOwners 102 = .ok (.iload_n 2, 1) := by decide +kernel
theorem dX0_fewestByOwners_103 : decode cX0_fewestByOwners 103 = .ok (.iload_n 2, 1) := by decide +kernel
theorem dX0_fewestByOwners_104 : decode cX0_fewestByOwners 104 = .ok (.iconst 1, 1) := by decide +kernel
theorem dX0_fewestByOwners_105 : decode cX0_fewestByOwners 105 = .ok (.iushr, 1) := by decide +kernel
theorem dX0_fewestByOwners_106 : decode cX0_fewestByOwners 106 = .ok (.ixor, 1) := by decide +kernel
theorem dX0_fewestByOwners_107 : decode cX0_fewestByOwners 107 = .ok (.invokestatic 72, 3) := by decide +kernel
theorem dX0_fewestByOwners_110 : decode cX0_fewestByOwners 110 = .ok (.invokestatic 75, 3) := by decide +kernel
theorem dX0_fewestByOwners_113 : decode cX0_fewestByOwners 113 = .ok (.istore_n 1, 1) := by decide +kernel
theorem dX0_fewestByOwners_114 : decode cX0_fewestByOwners 114 = .ok (.iinc 5 1, 3) := by decide +kernel
theorem dX0_fewestByOwners_117 : decode cX0_fewestByOwners 117 = .ok (.goto (-89), 3) := by decide +kernel
theorem dX0_fewestByOwners_120 : decode cX0_fewestByOwners 120 = .ok (.iload_n 1, 1) := by decide +kernel
theorem dX0_fewestByOwners_121 : decode cX0_fewestByOwners 121 = .ok (.bipush 6, 2) := by decide +kernel
theorem dX0_fewestByOwners_123 : decode cX0_fewestByOwners 123 = .ok (.if_icmp .le 7, 3) := by decide +kernel
theorem dX0_fewestByOwners_126 : decode cX0_fewestByOwners 126 = .ok (.iconst (-1), 1) := by decide +kernel
theorem dX0_fewestByOwners_127 : decode cX0_fewestByOwners 127 = .ok (.goto 4, 3) := by decide +kernel
theorem dX0_fewestByOwners_130 : decode cX0_fewestByOwners 130 = .ok (.iload_n 1, 1) := by decide +kernel
theorem dX0_fewestByOwners_131 : decode cX0_fewestByOwners 131 = .ok (.ireturn, 1) := by decide +kernel
theorem dX0_leastGapWithin_0 : decode cX0_leastGapWithin 0 = .ok (.aload_n 0, 1) := by decide +kernel
theorem dX0_leastGapWithin_1 : decode cX0_leastGapWithin 1 = .ok (.iload_n 1, 1) := by decide +kernel
theorem dX0_leastGapWithin_2 : decode cX0_leastGapWithin 2 = .ok (.iconst 0, 1) := by decide +kernel
theorem dX0_leastGapWithin_3 : decode cX0_leastGapWithin 3 = .ok (.iconst 0, 1) := by decide +kernel
theorem dX0_leastGapWithin_4 : decode cX0_leastGapWithin 4 = .ok (.lconst 0, 1) := by decide +kernel
theorem dX0_leastGapWithin_5 : decode cX0_leastGapWithin 5 = .ok (.invokestatic 81, 3) := by decide +kernel
theorem dX0_leastGapWithin_8 : decode cX0_leastGapWithin 8 = .ok (.ireturn, 1) := by decide +kernel
theorem dX0_leastFrom_0 : decode cX0_leastFrom 0 = .ok (.aload_n 0, 1) := by decide +kernel
theorem dX0_leastFrom_1 : decode cX0_leastFrom 1 = .ok (.aload_n 0, 1) := by decide +kernel
theorem dX0_leastFrom_2 : decode cX0_leastFrom 2 = .ok (.lload 4, 2) := by decide +kernel
theorem dX0_leastFrom_4 : decode cX0_leastFrom 4 = .ok (.iload_n 2, 1) := by decide +kernel
theorem dX0_leastFrom_5 : decode cX0_leastFrom 5 = .ok (.iload_n 3, 1) := by decide +kernel
theorem dX0_leastFrom_6 : decode cX0_leastFrom 6 = .ok (.aload_n 0, 1) := by decide +kernel
theorem dX0_leastFrom_7 : decode cX0_leastFrom 7 = .ok (.getfield 19, 3) := by decide +kernel
theorem dX0_leastFrom_10 : decode cX0_leastFrom 10 = .ok (.invokevirtual 55, 3) := by decide +kernel
theorem dX0_leastFrom_13 : decode cX0_leastFrom 13 = .ok (.invokevirtual 85, 3) := by decide +kernel
theorem dX0_leastFrom_16 : decode cX0_leastFrom 16 = .ok (.istore 6, 2) := by decide +kernel
theorem dX0_leastFrom_18 : decode cX0_leastFrom 18 = .ok (.iload_n 3, 1) := by decide +kernel
theorem dX0_leastFrom_19 : decode cX0_leastFrom 19 = .ok (.iconst 1, 1) := by decide +kernel
theorem dX0_leastFrom_20 : decode cX0_leastFrom 20 = .ok (.iadd, 1) := by decide +kernel
theorem dX0_leastFrom_21 : decode cX0_leastFrom 21 = .ok (.istore 7, 2) := by decide +kernel
theorem dX0_leastFrom_23 : decode cX0_leastFrom 23 = .ok (.iload_n 2, 1) := by decide +kernel
theorem dX0_leastFrom_24 : decode cX0_leastFrom 24 = .ok (.iload_n 1, 1) := by decide +kernel
theorem dX0_leastFrom_25 : decode cX0_leastFrom 25 = .ok (.if_icmp .ge 45, 3) := by decide +kernel
theorem dX0_leastFrom_28 : decode cX0_leastFrom 28 = .ok (.iload 7, 2) := by decide +kernel
theorem dX0_leastFrom_30 : decode cX0_leastFrom 30 = .ok (.aload_n 0, 1) := by decide +kernel
theorem dX0_leastFrom_31 : decode cX0_leastFrom 31 = .ok (.getfield 19, 3) := by decide +kernel
theorem dX0_leastFrom_34 : decode cX0_leastFrom 34 = .ok (.if_icmp .ge 36, 3) := by decide +kernel
theorem dX0_leastFrom_37 : decode cX0_leastFrom 37 = .ok (.iload 6, 2) := by decide +kernel
theorem dX0_leastFrom_39 : decode cX0_leastFrom 39 = .ok (.aload_n 0, 1) := by decide +kernel
theorem dX0_leastFrom_40 : decode cX0_leastFrom 40 = .ok (.iload_n 1, 1) := by decide +kernel
theorem dX0_leastFrom_41 : decode cX0_leastFrom 41 = .ok (.iload_n 2, 1) := by decide +kernel
theorem dX0_leastFrom_42 : decode cX0_leastFrom 42 = .ok (.iconst 1, 1) := by decide +kernel
theorem dX0_leastFrom_43 : decode cX0_leastFrom 43 = .ok (.iadd, 1) := by decide +kernel
theorem dX0_leastFrom_44 : decode cX0_leastFrom 44 = .ok (.iload 7, 2) := by decide +kernel
theorem dX0_leastFrom_46 : decode cX0_leastFrom 46 = .ok (.aload_n 0, 1) := by decide +kernel
theorem dX0_leastFrom_47 : decode cX0_leastFrom 47 = .ok (.lload 4, 2) := by decide +kernel
theorem dX0_leastFrom_49 : decode cX0_leastFrom 49 = .ok (.iload_n 2, 1) := by decide +kernel
theorem dX0_leastFrom_50 : decode cX0_leastFrom 50 = .ok (.iload_n 3, 1) := by decide +kernel
theorem dX0_leastFrom_51 : decode cX0_leastFrom 51 = .ok (.iload 7, 2) := by decide +kernel
theorem dX0_leastFrom_53 : decode cX0_leastFrom 53 = .ok (.invokevirtual 55, 3) := by decide +kernel
theorem dX0_leastFrom_56 : decode cX0_leastFrom 56 = .ok (.invokestatic 81, 3) := by decide +kernel
theorem dX0_leastFrom_59 : decode cX0_leastFrom 59 = .ok (.invokestatic 75, 3) := by decide +kernel
theorem dX0_leastFrom_62 : decode cX0_leastFrom 62 = .ok (.istore 6, 2) := by decide +kernel
theorem dX0_leastFrom_64 : decode cX0_leastFrom 64 = .ok (.iinc 7 1, 3) := by decide +kernel
theorem dX0_leastFrom_67 : decode cX0_leastFrom 67 = .ok (.goto (-44), 3) := by decide +kernel
theorem dX0_leastFrom_70 : decode cX0_leastFrom 70 = .ok (.iload 6, 2) := by decide +kernel
theorem dX0_leastFrom_72 : decode cX0_leastFrom 72 = .ok (.ireturn, 1) := by decide +kernel
theorem dX0_gapOf_0 : decode cX0_gapOf 0 = .ok (.aload_n 0, 1) := by decide +kernel
theorem dX0_gapOf_1 : decode cX0_gapOf 1 = .ok (.aload_n 0, 1) := by decide +kernel
theorem dX0_gapOf_2 : decode cX0_gapOf 2 = .ok (.getfield 19, 3) := by decide +kernel
theorem dX0_gapOf_5 : decode cX0_gapOf 5 = .ok (.invokevirtual 39, 3) := by decide +kernel
theorem dX0_gapOf_8 : decode cX0_gapOf 8 = .ok (.lstore_n 3, 1) := by decide +kernel
theorem dX0_gapOf_9 : decode cX0_gapOf 9 = .ok (.iconst 0, 1) := by decide +kernel
theorem dX0_gapOf_10 : decode cX0_gapOf 10 = .ok (.istore 5, 2) := by decide +kernel
theorem dX0_gapOf_12 : decode cX0_gapOf 12 = .ok (.iconst 0, 1) := by decide +kernel
theorem dX0_gapOf_13 : decode cX0_gapOf 13 = .ok (.istore 6, 2) := by decide +kernel
theorem dX0_gapOf_15 : decode cX0_gapOf 15 = .ok (.iload 6, 2) := by decide +kernel
theorem dX0_gapOf_17 : decode cX0_gapOf 17 = .ok (.iconst 4, 1) := by decide +kernel
theorem dX0_gapOf_18 : decode cX0_gapOf 18 = .ok (.if_icmp .ge 50, 3) := by decide +kernel
theorem dX0_gapOf_21 : decode cX0_gapOf 21 = .ok (.lload_n 3, 1) := by decide +kernel
theorem dX0_gapOf_22 : decode cX0_gapOf 22 = .ok (.bipush 16, 2) := by decide +kernel
theorem dX0_gapOf_24 : decode cX0_gapOf 24 = .ok (.iload 6, 2) := by decide +kernel
theorem dX0_gapOf_26 : decode cX0_gapOf 26 = .ok (.imul, 1) := by decide +kernel
theorem dX0_gapOf_27 : decode cX0_gapOf 27 = .ok (.lushr, 1) := by decide +kernel
theorem dX0_gapOf_28 : decode cX0_gapOf 28 = .ok (.l2i, 1) := by decide +kernel
theorem dX0_gapOf_29 : decode cX0_gapOf 29 = .ok (.ldc 89, 2) := by decide +kernel
theorem dX0_gapOf_31 : decode cX0_gapOf 31 = .ok (.iand, 1) := by decide +kernel
theorem dX0_gapOf_32 : decode cX0_gapOf 32 = .ok (.istore 7, 2) := by decide +kernel
theorem dX0_gapOf_34 : decode cX0_gapOf 34 = .ok (.lload_n 1, 1) := by decide +kernel
theorem dX0_gapOf_35 : decode cX0_gapOf 35 = .ok (.bipush 16, 2) := by decide +kernel
theorem dX0_gapOf_37 : decode cX0_gapOf 37 = .ok (.iload 6, 2) := by decide +kernel
theorem dX0_gapOf_39 : decode cX0_gapOf 39 = .ok (.imul, 1) := by decide +kernel
theorem dX0_gapOf_40 : decode cX0_gapOf 40 = .ok (.lushr, 1) := by decide +kernel
theorem dX0_gapOf_41 : decode cX0_gapOf 41 = .ok (.l2i, 1) := by decide +kernel
theorem dX0_gapOf_42 : decode cX0_gapOf 42 = .ok (.ldc 89, 2) := by decide +kernel
theorem dX0_gapOf_44 : decode cX0_gapOf 44 = .ok (.iand, 1) := by decide +kernel
theorem dX0_gapOf_45 : decode cX0_gapOf 45 = .ok (.istore 8, 2) := by decide +kernel
theorem dX0_gapOf_47 : decode cX0_gapOf 47 = .ok (.iload 5, 2) := by decide +kernel
theorem dX0_gapOf_49 : decode cX0_gapOf 49 = .ok (.iload 7, 2) := by decide +kernel
theorem dX0_gapOf_51 : decode cX0_gapOf 51 = .ok (.iconst 2, 1) := by decide +kernel
theorem dX0_gapOf_52 : decode cX0_gapOf 52 = .ok (.iload 8, 2) := by decide +kernel
theorem dX0_gapOf_54 : decode cX0_gapOf 54 = .ok (.imul, 1) := by decide +kernel
theorem dX0_gapOf_55 : decode cX0_gapOf 55 = .ok (.isub, 1) := by decide +kernel
theorem dX0_gapOf_56 : decode cX0_gapOf 56 = .ok (.invokestatic 90, 3) := by decide +kernel
theorem dX0_gapOf_59 : decode cX0_gapOf 59 = .ok (.iadd, 1) := by decide +kernel
theorem dX0_gapOf_60 : decode cX0_gapOf 60 = .ok (.istore 5, 2) := by decide +kernel
theorem dX0_gapOf_62 : decode cX0_gapOf 62 = .ok (.iinc 6 1, 3) := by decide +kernel
theorem dX0_gapOf_65 : decode cX0_gapOf 65 = .ok (.goto (-50), 3) := by decide +kernel
theorem dX0_gapOf_68 : decode cX0_gapOf 68 = .ok (.iload 5, 2) := by decide +kernel
theorem dX0_gapOf_70 : decode cX0_gapOf 70 = .ok (.ireturn, 1) := by decide +kernel
theorem dX1_init_0 : decode cX1_init 0 = .ok (.aload_n 0, 1) := by decide +kernel
theorem dX1_init_1 : decode cX1_init 1 = .ok (.invokespecial 3, 3) := by decide +kernel
theorem dX1_init_4 : decode cX1_init 4 = .ok (.aload_n 0, 1) := by decide +kernel
theorem dX1_init_5 : decode cX1_init 5 = .ok (.bipush 14, 2) := by decide +kernel
theorem dX1_init_7 : decode cX1_init 7 = .ok (.anewarray 9, 3) := by decide +kernel
theorem dX1_init_10 : decode cX1_init 10 = .ok (.putfield 11, 3) := by decide +kernel
theorem dX1_init_13 : decode cX1_init 13 = .ok (.iconst 0, 1) := by decide +kernel
theorem dX1_init_14 : decode cX1_init 14 = .ok (.istore_n 1, 1) := by decide +kernel
theorem dX1_init_15 : decode cX1_init 15 = .ok (.iload_n 1, 1) := by decide +kernel
theorem dX1_init_16 : decode cX1_init 16 = .ok (.aload_n 0, 1) := by decide +kernel
theorem dX1_init_17 : decode cX1_init 17 = .ok (.getfield 11, 3) := by decide +kernel
theorem dX1_init_20 : decode cX1_init 20 = .ok (.arraylength, 1) := by decide +kernel
theorem dX1_init_21 : decode cX1_init 21 = .ok (.if_icmp .ge 22, 3) := by decide +kernel
theorem dX1_init_24 : decode cX1_init 24 = .ok (.aload_n 0, 1) := by decide +kernel
theorem dX1_init_25 : decode cX1_init 25 = .ok (.getfield 11, 3) := by decide +kernel
theorem dX1_init_28 : decode cX1_init 28 = .ok (.iload_n 1, 1) := by decide +kernel
theorem dX1_init_29 : decode cX1_init 29 = .ok (.new 9, 3) := by decide +kernel
theorem dX1_init_32 : decode cX1_init 32 = .ok (.dup, 1) := by decide +kernel
theorem dX1_init_33 : decode cX1_init 33 = .ok (.invokespecial 17, 3) := by decide +kernel
theorem dX1_init_36 : decode cX1_init 36 = .ok (.aastore, 1) := by decide +kernel
theorem dX1_init_37 : decode cX1_init 37 = .ok (.iinc 1 1, 3) := by decide +kernel
theorem dX1_init_40 : decode cX1_init 40 = .ok (.goto (-25), 3) := by decide +kernel
theorem dX1_init_43 : decode cX1_init 43 = .ok (.return_, 1) := by decide +kernel
theorem dX1_forgetAll_0 : decode cX1_forgetAll 0 = .ok (.aload_n 0, 1) := by decide +kernel
theorem dX1_forgetAll_1 : decode cX1_forgetAll 1 = .ok (.iconst 0, 1) := by decide +kernel
theorem dX1_forgetAll_2 : decode cX1_forgetAll 2 = .ok (.putfield 18, 3) := by decide +kernel
theorem dX1_forgetAll_5 : decode cX1_forgetAll 5 = .ok (.return_, 1) := by decide +kernel
theorem dX1_remember_0 : decode cX1_remember 0 = .ok (.aload_n 0, 1) := by decide +kernel
theorem dX1_remember_1 : decode cX1_remember 1 = .ok (.getfield 22, 3) := by decide +kernel
theorem dX1_remember_4 : decode cX1_remember 4 = .ok (.ifCond .lt 15, 3) := by decide +kernel
theorem dX1_remember_7 : decode cX1_remember 7 = .ok (.aload_n 0, 1) := by decide +kernel
theorem dX1_remember_8 : decode cX1_remember 8 = .ok (.getfield 22, 3) := by decide +kernel
theorem dX1_remember_11 : decode cX1_remember 11 = .ok (.aload_n 0, 1) := by decide +kernel
theorem dX1_remember_12 : decode cX1_remember 12 = .ok (.getfield 11, 3) := by decide +kernel
theorem dX1_remember_15 : decode cX1_remember 15 = .ok (.arraylength, 1) := by decide +kernel
theorem dX1_remember_16 : decode cX1_remember 16 = .ok (.if_icmp .lt 4, 3) := by decide +kernel
theorem dX1_remember_19 : decode cX1_remember 19 = .ok (.return_, 1) := by decide +kernel
theorem dX1_remember_20 : decode cX1_remember 20 = .ok (.aload_n 0, 1) := by decide +kernel
theorem dX1_remember_21 : decode cX1_remember 21 = .ok (.getfield 11, 3) := by decide +kernel
theorem dX1_remember_24 : decode cX1_remember 24 = .ok (.aload_n 0, 1) := by decide +kernel
theorem dX1_remember_25 : decode cX1_remember 25 = .ok (.getfield 22, 3) := by decide +kernel
theorem dX1_remember_28 : decode cX1_remember 28 = .ok (.aaload, 1) := by decide +kernel
theorem dX1_remember_29 : decode cX1_remember 29 = .ok (.astore_n 2, 1) := by decide +kernel
theorem dX1_remember_30 : decode cX1_remember 30 = .ok (.aload_n 2, 1) := by decide +kernel
theorem dX1_remember_31 : decode cX1_remember 31 = .ok (.ifnonnull 4, 3) := by decide +kernel
theorem dX1_remember_34 : decode cX1_remember 34 = .ok (.return_, 1) := by decide +kernel
theorem dX1_remember_35 : decode cX1_remember 35 = .ok (.aload_n 2, 1) := by decide +kernel
theorem dX1_remember_36 : decode cX1_remember 36 = .ok (.aload_n 1, 1) := by decide +kernel
theorem dX1_remember_37 : decode cX1_remember 37 = .ok (.invokevirtual 25, 3) := by decide +kernel
theorem dX1_remember_40 : decode cX1_remember 40 = .ok (.aload_n 0, 1) := by decide +kernel
theorem dX1_remember_41 : decode cX1_remember 41 = .ok (.aload_n 0, 1) := by decide +kernel
theorem dX1_remember_42 : decode cX1_remember 42 = .ok (.getfield 22, 3) := by decide +kernel
theorem dX1_remember_45 : decode cX1_remember 45 = .ok (.iconst 1, 1) := by decide +kernel
theorem dX1_remember_46 : decode cX1_remember 46 = .ok (.iadd, 1) := by decide +kernel
theorem dX1_remember_47 : decode cX1_remember 47 = .ok (.aload_n 0, 1) := by decide +kernel
theorem dX1_remember_48 : decode cX1_remember 48 = .ok (.getfield 11, 3) := by decide +kernel
theorem dX1_remember_51 : decode cX1_remember 51 = .ok (.arraylength, 1) := by decide +kernel
theorem dX1_remember_52 : decode cX1_remember 52 = .ok (.if_icmp .ge 12, 3) := by decide +kernel
theorem dX1_remember_55 : decode cX1_remember 55 = .ok (.aload_n 0, 1) := by decide +kernel
theorem dX1_remember_56 : decode cX1_remember 56 = .ok (.getfield 22, 3) := by decide +kernel
theorem dX1_remember_59 : decode cX1_remember 59 = .ok (.iconst 1, 1) := by decide +kernel
theorem dX1_remember_60 : decode cX1_remember 60 = .ok (.iadd, 1) := by decide +kernel
theorem dX1_remember_61 : decode cX1_remember 61 = .ok (.goto 4, 3) := by decide +kernel
theorem dX1_remember_64 : decode cX1_remember 64 = .ok (.iconst 0, 1) := by decide +kernel
theorem dX1_remember_65 : decode cX1_remember 65 = .ok (.putfield 22, 3) := by decide +kernel
theorem dX1_remember_68 : decode cX1_remember 68 = .ok (.aload_n 0, 1) := by decide +kernel
theorem dX1_remember_69 : decode cX1_remember 69 = .ok (.aload_n 0, 1) := by decide +kernel
theorem dX1_remember_70 : decode cX1_remember 70 = .ok (.getfield 18, 3) := by decide +kernel
theorem dX1_remember_73 : decode cX1_remember 73 = .ok (.iconst 1, 1) := by decide +kernel
theorem dX1_remember_74 : decode cX1_remember 74 = .ok (.iadd, 1) := by decide +kernel
theorem dX1_remember_75 : decode cX1_remember 75 = .ok (.aload_n 0, 1) := by decide +kernel
theorem dX1_remember_76 : decode cX1_remember 76 = .ok (.getfield 11, 3) := by decide +kernel
theorem dX1_remember_79 : decode cX1_remember 79 = .ok (.arraylength, 1) := by decide +kernel
theorem dX1_remember_80 : decode cX1_remember 80 = .ok (.invokestatic 29, 3) := by decide +kernel
theorem dX1_remember_83 : decode cX1_remember 83 = .ok (.putfield 18, 3) := by decide +kernel
theorem dX1_remember_86 : decode cX1_remember 86 = .ok (.return_, 1) := by decide +kernel
theorem dX1_takeBack_0 : decode cX1_takeBack 0 = .ok (.aload_n 0, 1) := by decide +kernel
theorem dX1_takeBack_1 : decode cX1_takeBack 1 = .ok (.getfield 18, 3) := by decide +kernel
theorem dX1_takeBack_4 : decode cX1_takeBack 4 = .ok (.ifCond .le 7, 3) := by decide +kernel
theorem dX1_takeBack_7 : decode cX1_takeBack 7 = .ok (.aload_n 1, 1) := by decide +kernel
theorem dX1_takeBack_8 : decode cX1_takeBack 8 = .ok (.ifnonnull 4, 3) := by decide +kernel
theorem dX1_takeBack_11 : decode cX1_takeBack 11 = .ok (.return_, 1) := by decide +kernel
theorem dX1_takeBack_12 : decode cX1_takeBack 12 = .ok (.aload_n 0, 1) := by decide +kernel
theorem dX1_takeBack_13 : decode cX1_takeBack 13 = .ok (.getfield 22, 3) := by decide +kernel
theorem dX1_takeBack_16 : decode cX1_takeBack 16 = .ok (.ifCond .le 12, 3) := by decide +kernel
theorem dX1_takeBack_19 : decode cX1_takeBack 19 = .ok (.aload_n 0, 1) := by decide +kernel
theorem dX1_takeBack_20 : decode cX1_takeBack 20 = .ok (.getfield 22, 3) := by decide +kernel
theorem dX1_takeBack_23 : decode cX1_takeBack 23 = .ok (.iconst 1, 1) := by decide +kernel
theorem dX1_takeBack_24 : decode cX1_takeBack 24 = .ok (.isub, 1) := by decide +kernel
theorem dX1_takeBack_25 : decode cX1_takeBack 25 = .ok (.goto 10, 3) := by decide +kernel
theorem dX1_takeBack_28 : decode cX1_takeBack 28 = .ok (.aload_n 0, 1) := by decide +kernel
theorem dX1_takeBack_29 : decode cX1_takeBack 29 = .ok (.getfield 11, 3) := by decide +kernel
theorem dX1_takeBack_32 : decode cX1_takeBack 32 = .ok (.arraylength, 1) := by decide +kernel
theorem dX1_takeBack_33 : decode cX1_takeBack 33 = .ok (.iconst 1, 1) := by decide +kernel
theorem dX1_takeBack_34 : decode cX1_takeBack 34 = .ok (.isub, 1) := by decide +kernel
theorem dX1_takeBack_35 : decode cX1_takeBack 35 = .ok (.istore_n 2, 1) := by decide +kernel
theorem dX1_takeBack_36 : decode cX1_takeBack 36 = .ok (.iload_n 2, 1) := by decide +kernel
theorem dX1_takeBack_37 : decode cX1_takeBack 37 = .ok (.ifCond .lt 12, 3) := by decide +kernel
theorem dX1_takeBack_40 : decode cX1_takeBack 40 = .ok (.iload_n 2, 1) := by decide +kernel
theorem dX1_takeBack_41 : decode cX1_takeBack 41 = .ok (.aload_n 0, 1) := by decide +kernel
theorem dX1_takeBack_42 : decode cX1_takeBack 42 = .ok (.getfield 11, 3) := by decide +kernel
theorem dX1_takeBack_45 : decode cX1_takeBack 45 = .ok (.arraylength, 1) := by decide +kernel
theorem dX1_takeBack_46 : decode cX1_takeBack 46 = .ok (.if_icmp .lt 4, 3) := by decide +kernel
theorem dX1_takeBack_49 : decode cX1_takeBack 49 = .ok (.return_, 1) := by decide +kernel
theorem dX1_takeBack_50 : decode cX1_takeBack 50 = .ok (.aload_n 1, 1) := by decide +kernel
theorem dX1_takeBack_51 : decode cX1_takeBack 51 = .ok (.aload_n 0, 1) := by decide +kernel
theorem dX1_takeBack_52 : decode cX1_takeBack 52 = .ok (.getfield 11, 3) := by decide +kernel
theorem dX1_takeBack_55 : decode cX1_takeBack 55 = .ok (.iload_n 2, 1) := by decide +kernel
theorem dX1_takeBack_56 : decode cX1_takeBack 56 = .ok (.aaload, 1) := by decide +kernel
theorem dX1_takeBack_57 : decode cX1_takeBack 57 = .ok (.invokevirtual 25, 3) := by decide +kernel
theorem dX1_takeBack_60 : decode cX1_takeBack 60 = .ok (.aload_n 0, 1) := by decide +kernel
theorem dX1_takeBack_61 : decode cX1_takeBack 61 = .ok (.iload_n 2, 1) := by decide +kernel
theorem dX1_takeBack_62 : decode cX1_takeBack 62 = .ok (.putfield 22, 3) := by decide +kernel
theorem dX1_takeBack_65 : decode cX1_takeBack 65 = .ok (.aload_n 0, 1) := by decide +kernel
theorem dX1_takeBack_66 : decode cX1_takeBack 66 = .ok (.dup, 1) := by decide +kernel
theorem dX1_takeBack_67 : decode cX1_takeBack 67 = .ok (.getfield 18, 3) := by decide +kernel
theorem dX1_takeBack_70 : decode cX1_takeBack 70 = .ok (.iconst 1, 1) := by decide +kernel
theorem dX1_takeBack_71 : decode cX1_takeBack 71 = .ok (.isub, 1) := by decide +kernel
theorem dX1_takeBack_72 : decode cX1_takeBack 72 = .ok (.putfield 18, 3) := by decide +kernel
theorem dX1_takeBack_75 : decode cX1_takeBack 75 = .ok (.return_, 1) := by decide +kernel
theorem dX2_init_0 : decode cX2_init 0 = .ok (.aload_n 0, 1) := by decide +kernel
theorem dX2_init_1 : decode cX2_init 1 = .ok (.invokespecial 3, 3) := by decide +kernel
theorem dX2_init_4 : decode cX2_init 4 = .ok (.aload_n 0, 1) := by decide +kernel
theorem dX2_init_5 : decode cX2_init 5 = .ok (.bipush 16, 2) := by decide +kernel
theorem dX2_init_7 : decode cX2_init 7 = .ok (.newarray .int, 2) := by decide +kernel
theorem dX2_init_9 : decode cX2_init 9 = .ok (.putfield 9, 3) := by decide +kernel
theorem dX2_init_12 : decode cX2_init 12 = .ok (.aload_n 0, 1) := by decide +kernel
theorem dX2_init_13 : decode cX2_init 13 = .ok (.bipush 16, 2) := by decide +kernel
theorem dX2_init_15 : decode cX2_init 15 = .ok (.newarray .int, 2) := by decide +kernel
theorem dX2_init_17 : decode cX2_init 17 = .ok (.putfield 15, 3) := by decide +kernel
theorem dX2_init_20 : decode cX2_init 20 = .ok (.aload_n 0, 1) := by decide +kernel
theorem dX2_init_21 : decode cX2_init 21 = .ok (.bipush 16, 2) := by decide +kernel
theorem dX2_init_23 : decode cX2_init 23 = .ok (.newarray .int, 2) := by decide +kernel
theorem dX2_init_25 : decode cX2_init 25 = .ok (.putfield 18, 3) := by decide +kernel
theorem dX2_init_28 : decode cX2_init 28 = .ok (.return_, 1) := by decide +kernel
theorem dX2_becomeNew_0 : decode cX2_becomeNew 0 = .ok (.aload_n 0, 1) := by decide +kernel
theorem dX2_becomeNew_1 : decode cX2_becomeNew 1 = .ok (.iconst 0, 1) := by decide +kernel
theorem dX2_becomeNew_2 : decode cX2_becomeNew 2 = .ok (.putfield 21, 3) := by decide +kernel
theorem dX2_becomeNew_5 : decode cX2_becomeNew 5 = .ok (.aload_n 0, 1) := by decide +kernel
theorem dX2_becomeNew_6 : decode cX2_becomeNew 6 = .ok (.iconst 0, 1) := by decide +kernel
theorem dX2_becomeNew_7 : decode cX2_becomeNew 7 = .ok (.putfield 25, 3) := by decide +kernel
theorem dX2_becomeNew_10 : decode cX2_becomeNew 10 = .ok (.aload_n 0, 1) := by decide +kernel
theorem dX2_becomeNew_11 : decode cX2_becomeNew 11 = .ok (.iconst 0, 1) := by decide +kernel
theorem dX2_becomeNew_12 : decode cX2_becomeNew 12 = .ok (.putfield 28, 3) := by decide +kernel
theorem dX2_becomeNew_15 : decode cX2_becomeNew 15 = .ok (.aload_n 0, 1) := by decide +kernel
theorem dX2_becomeNew_16 : decode cX2_becomeNew 16 = .ok (.iconst 0, 1) := by decide +kernel
theorem dX2_becomeNew_17 : decode cX2_becomeNew 17 = .ok (.putfield 31, 3) := by decide +kernel
theorem dX2_becomeNew_20 : decode cX2_becomeNew 20 = .ok (.aload_n 0, 1) := by decide +kernel
theorem dX2_becomeNew_21 : decode cX2_becomeNew 21 = .ok (.iconst 0, 1) := by decide +kernel
theorem dX2_becomeNew_22 : decode cX2_becomeNew 22 = .ok (.putfield 34, 3) := by decide +kernel
theorem dX2_becomeNew_25 : decode cX2_becomeNew 25 = .ok (.aload_n 0, 1) := by decide +kernel
theorem dX2_becomeNew_26 : decode cX2_becomeNew 26 = .ok (.invokevirtual 37, 3) := by decide +kernel
theorem dX2_becomeNew_29 : decode cX2_becomeNew 29 = .ok (.return_, 1) := by decide +kernel
theorem dX2_becomeLike_0 : decode cX2_becomeLike 0 = .ok (.aload_n 1, 1) := by decide +kernel
theorem dX2_becomeLike_1 : decode cX2_becomeLike 1 = .ok (.ifnonnull 4, 3) := by decide +kernel
theorem dX2_becomeLike_4 : decode cX2_becomeLike 4 = .ok (.return_, 1) := by decide +kernel
theorem dX2_becomeLike_5 : decode cX2_becomeLike 5 = .ok (.aload_n 0, 1) := by decide +kernel
theorem dX2_becomeLike_6 : decode cX2_becomeLike 6 = .ok (.aload_n 1, 1) := by decide +kernel
theorem dX2_becomeLike_7 : decode cX2_becomeLike 7 = .ok (.getfield 21, 3) := by decide +kernel
theorem dX2_becomeLike_10 : decode cX2_becomeLike 10 = .ok (.putfield 21, 3) := by decide +kernel
theorem dX2_becomeLike_13 : decode cX2_becomeLike 13 = .ok (.aload_n 0, 1) := by decide +kernel
theorem dX2_becomeLike_14 : decode cX2_becomeLike 14 = .ok (.aload_n 1, 1) := by decide +kernel
theorem dX2_becomeLike_15 : decode cX2_becomeLike 15 = .ok (.getfield 25, 3) := by decide +kernel
theorem dX2_becomeLike_18 : decode cX2_becomeLike 18 = .ok (.putfield 25, 3) := by decide +kernel
theorem dX2_becomeLike_21 : decode cX2_becomeLike 21 = .ok (.aload_n 0, 1) := by decide +kernel
theorem dX2_becomeLike_22 : decode cX2_becomeLike 22 = .ok (.aload_n 1, 1) := by decide +kernel
theorem dX2_becomeLike_23 : decode cX2_becomeLike 23 = .ok (.getfield 28, 3) := by decide +kernel
theorem dX2_becomeLike_26 : decode cX2_becomeLike 26 = .ok (.putfield 28, 3) := by decide +kernel
theorem dX2_becomeLike_29 : decode cX2_becomeLike 29 = .ok (.aload_n 0, 1) := by decide +kernel
theorem dX2_becomeLike_30 : decode cX2_becomeLike 30 = .ok (.aload_n 1, 1) := by decide +kernel
theorem dX2_becomeLike_31 : decode cX2_becomeLike 31 = .ok (.getfield 31, 3) := by decide +kernel
theorem dX2_becomeLike_34 : decode cX2_becomeLike 34 = .ok (.putfield 31, 3) := by decide +kernel
theorem dX2_becomeLike_37 : decode cX2_becomeLike 37 = .ok (.aload_n 0, 1) := by decide +kernel
theorem dX2_becomeLike_38 : decode cX2_becomeLike 38 = .ok (.aload_n 1, 1) := by decide +kernel
theorem dX2_becomeLike_39 : decode cX2_becomeLike 39 = .ok (.getfield 34, 3) := by decide +kernel
theorem dX2_becomeLike_42 : decode cX2_becomeLike 42 = .ok (.putfield 34, 3) := by decide +kernel
theorem dX2_becomeLike_45 : decode cX2_becomeLike 45 = .ok (.aload_n 0, 1) := by decide +kernel
theorem dX2_becomeLike_46 : decode cX2_becomeLike 46 = .ok (.aload_n 1, 1) := by decide +kernel
theorem dX2_becomeLike_47 : decode cX2_becomeLike 47 = .ok (.getfield 40, 3) := by decide +kernel
theorem dX2_becomeLike_50 : decode cX2_becomeLike 50 = .ok (.putfield 40, 3) := by decide +kernel
theorem dX2_becomeLike_53 : decode cX2_becomeLike 53 = .ok (.iconst 0, 1) := by decide +kernel
theorem dX2_becomeLike_54 : decode cX2_becomeLike 54 = .ok (.istore_n 2, 1) := by decide +kernel
theorem dX2_becomeLike_55 : decode cX2_becomeLike 55 = .ok (.iload_n 2, 1) := by decide +kernel
theorem dX2_becomeLike_56 : decode cX2_becomeLike 56 = .ok (.bipush 16, 2) := by decide +kernel
theorem dX2_becomeLike_58 : decode cX2_becomeLike 58 = .ok (.if_icmp .ge 34, 3) := by decide +kernel
theorem dX2_becomeLike_61 : decode cX2_becomeLike 61 = .ok (.aload_n 0, 1) := by decide +kernel
theorem dX2_becomeLike_62 : decode cX2_becomeLike 62 = .ok (.iload_n 2, 1) := by decide +kernel
theorem dX2_becomeLike_63 : decode cX2_becomeLike 63 = .ok (.aload_n 1, 1) := by decide +kernel
theorem dX2_becomeLike_64 : decode cX2_becomeLike 64 = .ok (.iload_n 2, 1) := by decide +kernel
theorem dX2_becomeLike_65 : decode cX2_becomeLike 65 = .ok (.invokevirtual 43, 3) := by decide +kernel
theorem dX2_becomeLike_68 : decode cX2_becomeLike 68 = .ok (.aload_n 1, 1) := by decide +kernel
theorem dX2_becomeLike_69 : decode cX2_becomeLike 69 = .ok (.iload_n 2, 1) := by decide +kernel
theorem dX2_becomeLike_70 : decode cX2_becomeLike 70 = .ok (.invokevirtual 47, 3) := by decide +kernel
theorem dX2_becomeLike_73 : decode cX2_becomeLike 73 = .ok (.invokevirtual 50, 3) := by decide +kernel
theorem dX2_becomeLike_76 : decode cX2_becomeLike 76 = .ok (.aload_n 0, 1) := by decide +kernel
theorem dX2_becomeLike_77 : decode cX2_becomeLike 77 = .ok (.iload_n 2, 1) := by decide +kernel
theorem dX2_becomeLike_78 : decode cX2_becomeLike 78 = .ok (.aload_n 1, 1) := by decide +kernel
theorem dX2_becomeLike_79 : decode cX2_becomeLike 79 = .ok (.iload_n 2, 1) := by decide +kernel
theorem dX2_becomeLike_80 : decode cX2_becomeLike 80 = .ok (.invokevirtual 54, 3) := by decide +kernel
theorem dX2_becomeLike_83 : decode cX2_becomeLike 83 = .ok (.invokevirtual 57, 3) := by decide +kernel
theorem dX2_becomeLike_86 : decode cX2_becomeLike 86 = .ok (.iinc 2 1, 3) := by decide +kernel
theorem dX2_becomeLike_89 : decode cX2_becomeLike 89 = .ok (.goto (-34), 3) := by decide +kernel
theorem dX2_becomeLike_92 : decode cX2_becomeLike 92 = .ok (.return_, 1) := by decide +kernel
theorem dX2_kindOf_0 : decode cX2_kindOf 0 = .ok (.iload_n 1, 1) := by decide +kernel
theorem dX2_kindOf_1 : decode cX2_kindOf 1 = .ok (.ifCond .lt 21, 3) := by decide +kernel
theorem dX2_kindOf_4 : decode cX2_kindOf 4 = .ok (.iload_n 1, 1) := by decide +kernel
theorem dX2_kindOf_5 : decode cX2_kindOf 5 = .ok (.aload_n 0, 1) := by decide +kernel
theorem dX2_kindOf_6 : decode cX2_kindOf 6 = .ok (.getfield 9, 3) := by decide +kernel
theorem dX2_kindOf_9 : decode cX2_kindOf 9 = .ok (.arraylength, 1) := by decide +kernel
theorem dX2_kindOf_10 : decode cX2_kindOf 10 = .ok (.if_icmp .ge 12, 3) := by decide +kernel
theorem dX2_kindOf_13 : decode cX2_kindOf 13 = .ok (.aload_n 0, 1) := by decide +kernel
theorem dX2_kindOf_14 : decode cX2_kindOf 14 = .ok (.getfield 9, 3) := by decide +kernel
theorem dX2_kindOf_17 : decode cX2_kindOf 17 = .ok (.iload_n 1, 1) := by decide +kernel
theorem dX2_kindOf_18 : decode cX2_kindOf 18 = .ok (.iaload, 1) := by decide +kernel
theorem dX2_kindOf_19 : decode cX2_kindOf 19 = .ok (.goto 4, 3) := by decide +kernel
theorem dX2_kindOf_22 : decode cX2_kindOf 22 = .ok (.iconst 0, 1) := by decide +kernel
theorem dX2_kindOf_23 : decode cX2_kindOf 23 = .ok (.ireturn, 1) := by decide +kernel
theorem dX2_weightOf_0 : decode cX2_weightOf 0 = .ok (.iload_n 1, 1) := by decide +kernel
theorem dX2_weightOf_1 : decode cX2_weightOf 1 = .ok (.ifCond .lt 21, 3) := by decide +kernel
theorem dX2_weightOf_4 : decode cX2_weightOf 4 = .ok (.iload_n 1, 1) := by decide +kernel
theorem dX2_weightOf_5 : decode cX2_weightOf 5 = .ok (.aload_n 0, 1) := by decide +kernel
theorem dX2_weightOf_6 : decode cX2_weightOf 6 = .ok (.getfield 15, 3) := by decide +kernel
theorem dX2_weightOf_9 : decode cX2_weightOf 9 = .ok (.arraylength, 1) := by decide +kernel
theorem dX2_weightOf_10 : decode cX2_weightOf 10 = .ok (.if_icmp .ge 12, 3) := by decide +kernel
theorem dX2_weightOf_13 : decode cX2_weightOf 13 = .ok (.aload_n 0, 1) := by decide +kernel
theorem dX2_weightOf_14 : decode cX2_weightOf 14 = .ok (.getfield 15, 3) := by decide +kernel
theorem dX2_weightOf_17 : decode cX2_weightOf 17 = .ok (.iload_n 1, 1) := by decide +kernel
theorem dX2_weightOf_18 : decode cX2_weightOf 18 = .ok (.iaload, 1) := by decide +kernel
theorem dX2_weightOf_19 : decode cX2_weightOf 19 = .ok (.goto 4, 3) := by decide +kernel
theorem dX2_weightOf_22 : decode cX2_weightOf 22 = .ok (.iconst 0, 1) := by decide +kernel
theorem dX2_weightOf_23 : decode cX2_weightOf 23 = .ok (.ireturn, 1) := by decide +kernel
theorem dX2_ownerAt_0 : decode cX2_ownerAt 0 = .ok (.iload_n 1, 1) := by decide +kernel
theorem dX2_ownerAt_1 : decode cX2_ownerAt 1 = .ok (.ifCond .lt 21, 3) := by decide +kernel
theorem dX2_ownerAt_4 : decode cX2_ownerAt 4 = .ok (.iload_n 1, 1) := by decide +kernel
theorem dX2_ownerAt_5 : decode cX2_ownerAt 5 = .ok (.aload_n 0, 1) := by decide +kernel
theorem dX2_ownerAt_6 : decode cX2_ownerAt 6 = .ok (.getfield 18, 3) := by decide +kernel
theorem dX2_ownerAt_9 : decode cX2_ownerAt 9 = .ok (.arraylength, 1) := by decide +kernel
theorem dX2_ownerAt_10 : decode cX2_ownerAt 10 = .ok (.if_icmp .ge 12, 3) := by decide +kernel
theorem dX2_ownerAt_13 : decode cX2_ownerAt 13 = .ok (.aload_n 0, 1) := by decide +kernel
theorem dX2_ownerAt_14 : decode cX2_ownerAt 14 = .ok (.getfield 18, 3) := by decide +kernel
theorem dX2_ownerAt_17 : decode cX2_ownerAt 17 = .ok (.iload_n 1, 1) := by decide +kernel
theorem dX2_ownerAt_18 : decode cX2_ownerAt 18 = .ok (.iaload, 1) := by decide +kernel
theorem dX2_ownerAt_19 : decode cX2_ownerAt 19 = .ok (.goto 4, 3) := by decide +kernel
theorem dX2_ownerAt_22 : decode cX2_ownerAt 22 = .ok (.iconst (-1), 1) := by decide +kernel
theorem dX2_ownerAt_23 : decode cX2_ownerAt 23 = .ok (.ireturn, 1) := by decide +kernel
theorem dX2_putJewel_0 : decode cX2_putJewel 0 = .ok (.iload_n 1, 1) := by decide +kernel
theorem dX2_putJewel_1 : decode cX2_putJewel 1 = .ok (.ifCond .lt 35, 3) := by decide +kernel
theorem dX2_putJewel_4 : decode cX2_putJewel 4 = .ok (.iload_n 1, 1) := by decide +kernel
theorem dX2_putJewel_5 : decode cX2_putJewel 5 = .ok (.aload_n 0, 1) := by decide +kernel
theorem dX2_putJewel_6 : decode cX2_putJewel 6 = .ok (.getfield 9, 3) := by decide +kernel
theorem dX2_putJewel_9 : decode cX2_putJewel 9 = .ok (.arraylength, 1) := by decide +kernel
theorem dX2_putJewel_10 : decode cX2_putJewel 10 = .ok (.if_icmp .ge 26, 3) := by decide +kernel
theorem dX2_putJewel_13 : decode cX2_putJewel 13 = .ok (.iload_n 1, 1) := by decide +kernel
theorem dX2_putJewel_14 : decode cX2_putJewel 14 = .ok (.aload_n 0, 1) := by decide +kernel
theorem dX2_putJewel_15 : decode cX2_putJewel 15 = .ok (.getfield 15, 3) := by decide +kernel
theorem dX2_putJewel_18 : decode cX2_putJewel 18 = .ok (.arraylength, 1) := by decide +kernel
theorem dX2_putJewel_19 : decode cX2_putJewel 19 = .ok (.if_icmp .ge 17, 3) := by decide +kernel
theorem dX2_putJewel_22 : decode cX2_putJewel 22 = .ok (.aload_n 0, 1) := by decide +kernel
theorem dX2_putJewel_23 : decode cX2_putJewel 23 = .ok (.getfield 9, 3) := by decide +kernel
theorem dX2_putJewel_26 : decode cX2_putJewel 26 = .ok (.iload_n 1, 1) := by decide +kernel
theorem dX2_putJewel_27 : decode cX2_putJewel 27 = .ok (.iload_n 2, 1) := by decide +kernel
theorem dX2_putJewel_28 : decode cX2_putJewel 28 = .ok (.iastore, 1) := by decide +kernel
theorem dX2_putJewel_29 : decode cX2_putJewel 29 = .ok (.aload_n 0, 1) := by decide +kernel
theorem dX2_putJewel_30 : decode cX2_putJewel 30 = .ok (.getfield 15, 3) := by decide +kernel
theorem dX2_putJewel_33 : decode cX2_putJewel 33 = .ok (.iload_n 1, 1) := by decide +kernel
theorem dX2_putJewel_34 : decode cX2_putJewel 34 = .ok (.iload_n 3, 1) := by decide +kernel
theorem dX2_putJewel_35 : decode cX2_putJewel 35 = .ok (.iastore, 1) := by decide +kernel
theorem dX2_putJewel_36 : decode cX2_putJewel 36 = .ok (.return_, 1) := by decide +kernel
theorem dX2_putOwner_0 : decode cX2_putOwner 0 = .ok (.iload_n 1, 1) := by decide +kernel
theorem dX2_putOwner_1 : decode cX2_putOwner 1 = .ok (.ifCond .lt 19, 3) := by decide +kernel
theorem dX2_putOwner_4 : decode cX2_putOwner 4 = .ok (.iload_n 1, 1) := by decide +kernel
theorem dX2_putOwner_5 : decode cX2_putOwner 5 = .ok (.aload_n 0, 1) := by decide +kernel
theorem dX2_putOwner_6 : decode cX2_putOwner 6 = .ok (.getfield 18, 3) := by decide +kernel
theorem dX2_putOwner_9 : decode cX2_putOwner 9 = .ok (.arraylength, 1) := by decide +kernel
theorem dX2_putOwner_10 : decode cX2_putOwner 10 = .ok (.if_icmp .ge 10, 3) := by decide +kernel
theorem dX2_putOwner_13 : decode cX2_putOwner 13 = .ok (.aload_n 0, 1) := by decide +kernel
theorem dX2_putOwner_14 : decode cX2_putOwner 14 = .ok (.getfield 18, 3) := by decide +kernel
theorem dX2_putOwner_17 : decode cX2_putOwner 17 = .ok (.iload_n 1, 1) := by decide +kernel
theorem dX2_putOwner_18 : decode cX2_putOwner 18 = .ok (.iload_n 2, 1) := by decide +kernel
theorem dX2_putOwner_19 : decode cX2_putOwner 19 = .ok (.iastore, 1) := by decide +kernel
theorem dX2_putOwner_20 : decode cX2_putOwner 20 = .ok (.return_, 1) := by decide +kernel
theorem dX2_hasJewel_0 : decode cX2_hasJewel 0 = .ok (.iload_n 1, 1) := by decide +kernel
theorem dX2_hasJewel_1 : decode cX2_hasJewel 1 = .ok (.ifCond .lt 15, 3) := by decide +kernel
theorem dX2_hasJewel_4 : decode cX2_hasJewel 4 = .ok (.iload_n 1, 1) := by decide +kernel
theorem dX2_hasJewel_5 : decode cX2_hasJewel 5 = .ok (.aload_n 0, 1) := by decide +kernel
theorem dX2_hasJewel_6 : decode cX2_hasJewel 6 = .ok (.getfield 21, 3) := by decide +kernel
theorem dX2_hasJewel_9 : decode cX2_hasJewel 9 = .ok (.if_icmp .ge 7, 3) := by decide +kernel
theorem dX2_hasJewel_12 : decode cX2_hasJewel 12 = .ok (.iconst 1, 1) := by decide +kernel
theorem dX2_hasJewel_13 : decode cX2_hasJewel 13 = .ok (.goto 4, 3) := by decide +kernel
theorem dX2_hasJewel_16 : decode cX2_hasJewel 16 = .ok (.iconst 0, 1) := by decide +kernel
theorem dX2_hasJewel_17 : decode cX2_hasJewel 17 = .ok (.ireturn, 1) := by decide +kernel
theorem dX2_hasPlace_0 : decode cX2_hasPlace 0 = .ok (.iload_n 1, 1) := by decide +kernel
theorem dX2_hasPlace_1 : decode cX2_hasPlace 1 = .ok (.ifCond .lt 15, 3) := by decide +kernel
theorem dX2_hasPlace_4 : decode cX2_hasPlace 4 = .ok (.iload_n 1, 1) := by decide +kernel
theorem dX2_hasPlace_5 : decode cX2_hasPlace 5 = .ok (.aload_n 0, 1) := by decide +kernel
theorem dX2_hasPlace_6 : decode cX2_hasPlace 6 = .ok (.getfield 21, 3) := by decide +kernel
theorem dX2_hasPlace_9 : decode cX2_hasPlace 9 = .ok (.if_icmp .ge 7, 3) := by decide +kernel
theorem dX2_hasPlace_12 : decode cX2_hasPlace 12 = .ok (.iconst 1, 1) := by decide +kernel
theorem dX2_hasPlace_13 : decode cX2_hasPlace 13 = .ok (.goto 4, 3) := by decide +kernel
theorem dX2_hasPlace_16 : decode cX2_hasPlace 16 = .ok (.iconst 0, 1) := by decide +kernel
theorem dX2_hasPlace_17 : decode cX2_hasPlace 17 = .ok (.ireturn, 1) := by decide +kernel
theorem dX2_canBeCutAt_0 : decode cX2_canBeCutAt 0 = .ok (.iload_n 1, 1) := by decide +kernel
theorem dX2_canBeCutAt_1 : decode cX2_canBeCutAt 1 = .ok (.iconst 1, 1) := by decide +kernel
theorem dX2_canBeCutAt_2 : decode cX2_canBeCutAt 2 = .ok (.if_icmp .lt 15, 3) := by decide +kernel
theorem dX2_canBeCutAt_5 : decode cX2_canBeCutAt 5 = .ok (.iload_n 1, 1) := by decide +kernel
theorem dX2_canBeCutAt_6 : decode cX2_canBeCutAt 6 = .ok (.aload_n 0, 1) := by decide +kernel
theorem dX2_canBeCutAt_7 : decode cX2_canBeCutAt 7 = .ok (.getfield 21, 3) := by decide +kernel
theorem dX2_canBeCutAt_10 : decode cX2_canBeCutAt 10 = .ok (.if_icmp .ge 7, 3) := by decide +kernel
theorem dX2_canBeCutAt_13 : decode cX2_canBeCutAt 13 = .ok (.iconst 1, 1) := by decide +kernel
theorem dX2_canBeCutAt_14 : decode cX2_canBeCutAt 14 = .ok (.goto 4, 3) := by decide +kernel
theorem dX2_canBeCutAt_17 : decode cX2_canBeCutAt 17 = .ok (.iconst 0, 1) := by decide +kernel
theorem dX2_canBeCutAt_18 : decode cX2_canBeCutAt 18 = .ok (.ireturn, 1) := by decide +kernel
theorem dX2_hasRun_0 : decode cX2_hasRun 0 = .ok (.iload_n 1, 1) := by decide +kernel
theorem dX2_hasRun_1 : decode cX2_hasRun 1 = .ok (.ifCond .lt 15, 3) := by decide +kernel
theorem dX2_hasRun_4 : decode cX2_hasRun 4 = .ok (.iload_n 1, 1) := by decide +kernel
theorem dX2_hasRun_5 : decode cX2_hasRun 5 = .ok (.aload_n 0, 1) := by decide +kernel
theorem dX2_hasRun_6 : decode cX2_hasRun 6 = .ok (.invokevirtual 61, 3) := by decide +kernel
theorem dX2_hasRun_9 : decode cX2_hasRun 9 = .ok (.if_icmp .ge 7, 3) := by decide +kernel
theorem dX2_hasRun_12 : decode cX2_hasRun 12 = .ok (.iconst 1, 1) := by decide +kernel
theorem dX2_hasRun_13 : decode cX2_hasRun 13 = .ok (.goto 4, 3) := by decide +kernel
theorem dX2_hasRun_16 : decode cX2_hasRun 16 = .ok (.iconst 0, 1) := by decide +kernel
theorem dX2_hasRun_17 : decode cX2_hasRun 17 = .ok (.ireturn, 1) := by decide +kernel
theorem dX2_valueOf_0 : decode cX2_valueOf 0 = .ok (.aload_n 0, 1) := by decide +kernel
theorem dX2_valueOf_1 : decode cX2_valueOf 1 = .ok (.getfield 34, 3) := by decide +kernel
theorem dX2_valueOf_4 : decode cX2_valueOf 4 = .ok (.ifCond .ne 7, 3) := by decide +kernel
theorem dX2_valueOf_7 : decode cX2_valueOf 7 = .ok (.iconst 1, 1) := by decide +kernel
theorem dX2_valueOf_8 : decode cX2_valueOf 8 = .ok (.goto 8, 3) := by decide +kernel
theorem dX2_valueOf_11 : decode cX2_valueOf 11 = .ok (.aload_n 0, 1) := by decide +kernel
theorem dX2_valueOf_12 : decode cX2_valueOf 12 = .ok (.iload_n 1, 1) := by decide +kernel
theorem dX2_valueOf_13 : decode cX2_valueOf 13 = .ok (.invokevirtual 47, 3) := by decide +kernel
theorem dX2_valueOf_16 : decode cX2_valueOf 16 = .ok (.ireturn, 1) := by decide +kernel
theorem dX2_jewelAt_0 : decode cX2_jewelAt 0 = .ok (.aload_n 0, 1) := by decide +kernel
theorem dX2_jewelAt_1 : decode cX2_jewelAt 1 = .ok (.getfield 25, 3) := by decide +kernel
theorem dX2_jewelAt_4 : decode cX2_jewelAt 4 = .ok (.iload_n 1, 1) := by decide +kernel
theorem dX2_jewelAt_5 : decode cX2_jewelAt 5 = .ok (.iadd, 1) := by decide +kernel
theorem dX2_jewelAt_6 : decode cX2_jewelAt 6 = .ok (.istore_n 2, 1) := by decide +kernel
theorem dX2_jewelAt_7 : decode cX2_jewelAt 7 = .ok (.iload_n 2, 1) := by decide +kernel
theorem dX2_jewelAt_8 : decode cX2_jewelAt 8 = .ok (.aload_n 0, 1) := by decide +kernel
theorem dX2_jewelAt_9 : decode cX2_jewelAt 9 = .ok (.getfield 21, 3) := by decide +kernel
theorem dX2_jewelAt_12 : decode cX2_jewelAt 12 = .ok (.if_icmp .ge 7, 3) := by decide +kernel
theorem dX2_jewelAt_15 : decode cX2_jewelAt 15 = .ok (.iload_n 2, 1) := by decide +kernel
theorem dX2_jewelAt_16 : decode cX2_jewelAt 16 = .ok (.goto 9, 3) := by decide +kernel
theorem dX2_jewelAt_19 : decode cX2_jewelAt 19 = .ok (.iload_n 2, 1) := by decide +kernel
theorem dX2_jewelAt_20 : decode cX2_jewelAt 20 = .ok (.aload_n 0, 1) := by decide +kernel
theorem dX2_jewelAt_21 : decode cX2_jewelAt 21 = .ok (.getfield 21, 3) := by decide +kernel
theorem dX2_jewelAt_24 : decode cX2_jewelAt 24 = .ok (.isub, 1) := by decide +kernel
theorem dX2_jewelAt_25 : decode cX2_jewelAt 25 = .ok (.ireturn, 1) := by decide +kernel
theorem dX2_placeWith_0 : decode cX2_placeWith 0 = .ok (.iload_n 1, 1) := by decide +kernel
theorem dX2_placeWith_1 : decode cX2_placeWith 1 = .ok (.aload_n 0, 1) := by decide +kernel
theorem dX2_placeWith_2 : decode cX2_placeWith 2 = .ok (.getfield 25, 3) := by decide +kernel
theorem dX2_placeWith_5 : decode cX2_placeWith 5 = .ok (.isub, 1) := by decide +kernel
theorem dX2_placeWith_6 : decode cX2_placeWith 6 = .ok (.istore_n 2, 1) := by decide +kernel
theorem dX2_placeWith_7 : decode cX2_placeWith 7 = .ok (.iload_n 2, 1) := by decide +kernel
theorem dX2_placeWith_8 : decode cX2_placeWith 8 = .ok (.ifCond .lt 7, 3) := by decide +kernel
theorem dX2_placeWith_11 : decode cX2_placeWith 11 = .ok (.iload_n 2, 1) := by decide +kernel
theorem dX2_placeWith_12 : decode cX2_placeWith 12 = .ok (.goto 9, 3) := by decide +kernel
theorem dX2_placeWith_15 : decode cX2_placeWith 15 = .ok (.iload_n 2, 1) := by decide +kernel
theorem dX2_placeWith_16 : decode cX2_placeWith 16 = .ok (.aload_n 0, 1) := by decide +kernel
theorem dX2_placeWith_17 : decode cX2_placeWith 17 = .ok (.getfield 21, 3) := by decide +kernel
theorem dX2_placeWith_20 : decode cX2_placeWith 20 = .ok (.iadd, 1) := by decide +kernel
theorem dX2_placeWith_21 : decode cX2_placeWith 21 = .ok (.ireturn, 1) := by decide +kernel
theorem dX2_isCut_0 : decode cX2_isCut 0 = .ok (.aload_n 0, 1) := by decide +kernel
theorem dX2_isCut_1 : decode cX2_isCut 1 = .ok (.getfield 40, 3) := by decide +kernel
theorem dX2_isCut_4 : decode cX2_isCut 4 = .ok (.iload_n 1, 1) := by decide +kernel
theorem dX2_isCut_5 : decode cX2_isCut 5 = .ok (.iushr, 1) := by decide +kernel
theorem dX2_isCut_6 : decode cX2_isCut 6 = .ok (.iconst 1, 1) := by decide +kernel
theorem dX2_isCut_7 : decode cX2_isCut 7 = .ok (.iand, 1) := by decide +kernel
theorem dX2_isCut_8 : decode cX2_isCut 8 = .ok (.ifCond .eq 7, 3) := by decide +kernel
theorem dX2_isCut_11 : decode cX2_isCut 11 = .ok (.iconst 1, 1) := by decide +kernel
theorem dX2_isCut_12 : decode cX2_isCut 12 = .ok (.goto 4, 3) := by decide +kernel
theorem dX2_isCut_15 : decode cX2_isCut 15 = .ok (.iconst 0, 1) := by decide +kernel
theorem dX2_isCut_16 : decode cX2_isCut 16 = .ok (.ireturn, 1) := by decide +kernel
theorem dX2_cutCount_0 : decode cX2_cutCount 0 = .ok (.aload_n 0, 1) := by decide +kernel
theorem dX2_cutCount_1 : decode cX2_cutCount 1 = .ok (.getfield 40, 3) := by decide +kernel
theorem dX2_cutCount_4 : decode cX2_cutCount 4 = .ok (.invokestatic 65, 3) := by decide +kernel
theorem dX2_cutCount_7 : decode cX2_cutCount 7 = .ok (.ireturn, 1) := by decide +kernel
theorem dX2_runs_0 : decode cX2_runs 0 = .ok (.aload_n 0, 1) := by decide +kernel
theorem dX2_runs_1 : decode cX2_runs 1 = .ok (.getfield 21, 3) := by decide +kernel
theorem dX2_runs_4 : decode cX2_runs 4 = .ok (.ifCond .ne 7, 3) := by decide +kernel
theorem dX2_runs_7 : decode cX2_runs 7 = .ok (.iconst 0, 1) := by decide +kernel
theorem dX2_runs_8 : decode cX2_runs 8 = .ok (.goto 12, 3) := by decide +kernel
theorem dX2_runs_11 : decode cX2_runs 11 = .ok (.aload_n 0, 1) := by decide +kernel
theorem dX2_runs_12 : decode cX2_runs 12 = .ok (.getfield 40, 3) := by decide +kernel
theorem dX2_runs_15 : decode cX2_runs 15 = .ok (.invokestatic 65, 3) := by decide +kernel
theorem dX2_runs_18 : decode cX2_runs 18 = .ok (.iconst 1, 1) := by decide +kernel
theorem dX2_runs_19 : decode cX2_runs 19 = .ok (.iadd, 1) := by decide +kernel
theorem dX2_runs_20 : decode cX2_runs 20 = .ok (.ireturn, 1) := by decide +kernel
theorem dX2_runAt_0 : decode cX2_runAt 0 = .ok (.aload_n 0, 1) := by decide +kernel
theorem dX2_runAt_1 : decode cX2_runAt 1 = .ok (.getfield 40, 3) := by decide +kernel
theorem dX2_runAt_4 : decode cX2_runAt 4 = .ok (.iconst 2, 1) := by decide +kernel
theorem dX2_runAt_5 : decode cX2_runAt 5 = .ok (.iload_n 1, 1) := by decide +kernel
theorem dX2_runAt_6 : decode cX2_runAt 6 = .ok (.ishl, 1) := by decide +kernel
theorem dX2_runAt_7 : decode cX2_runAt 7 = .ok (.iconst 1, 1) := by decide +kernel
theorem dX2_runAt_8 : decode cX2_runAt 8 = .ok (.isub, 1) := by decide +kernel
theorem dX2_runAt_9 : decode cX2_runAt 9 = .ok (.iand, 1) := by decide +kernel
theorem dX2_runAt_10 : decode cX2_runAt 10 = .ok (.invokestatic 65, 3) := by decide +kernel
theorem dX2_runAt_13 : decode cX2_runAt 13 = .ok (.ireturn, 1) := by decide +kernel
theorem dX2_firstPlaceOf_0 : decode cX2_firstPlaceOf 0 = .ok (.iconst 0, 1) := by decide +kernel
theorem dX2_firstPlaceOf_1 : decode cX2_firstPlaceOf 1 = .ok (.istore_n 2, 1) := by decide +kernel
theorem dX2_firstPlaceOf_2 : decode cX2_firstPlaceOf 2 = .ok (.iload_n 2, 1) := by decide +kernel
theorem dX2_firstPlaceOf_3 : decode cX2_firstPlaceOf 3 = .ok (.aload_n 0, 1) := by decide +kernel
theorem dX2_firstPlaceOf_4 : decode cX2_firstPlaceOf 4 = .ok (.getfield 21, 3) := by decide +kernel
theorem dX2_firstPlaceOf_7 : decode cX2_firstPlaceOf 7 = .ok (.if_icmp .ge 20, 3) := by decide +kernel
theorem dX2_firstPlaceOf_10 : decode cX2_firstPlaceOf 10 = .ok (.aload_n 0, 1) := by decide +kernel
theorem dX2_firstPlaceOf_11 : decode cX2_firstPlaceOf 11 = .ok (.iload_n 2, 1) := by decide +kernel
theorem dX2_firstPlaceOf_12 : decode cX2_firstPlaceOf 12 = .ok (.invokevirtual 70, 3) := by decide +kernel
theorem dX2_firstPlaceOf_15 : decode cX2_firstPlaceOf 15 = .ok (.iload_n 1, 1) := by decide +kernel
theorem dX2_firstPlaceOf_16 : decode cX2_firstPlaceOf 16 = .ok (.if_icmp .ne 5, 3) := by decide +kernel
theorem dX2_firstPlaceOf_19 : decode cX2_firstPlaceOf 19 = .ok (.iload_n 2, 1) := by decide +kernel
theorem dX2_firstPlaceOf_20 : decode cX2_firstPlaceOf 20 = .ok (.ireturn, 1) := by decide +kernel
theorem dX2_firstPlaceOf_21 : decode cX2_firstPlaceOf 21 = .ok (.iinc 2 1, 3) := by decide +kernel
theorem dX2_firstPlaceOf_24 : decode cX2_firstPlaceOf 24 = .ok (.goto (-22), 3) := by decide +kernel
theorem dX2_firstPlaceOf_27 : decode cX2_firstPlaceOf 27 = .ok (.iconst (-1), 1) := by decide +kernel
theorem dX2_firstPlaceOf_28 : decode cX2_firstPlaceOf 28 = .ok (.ireturn, 1) := by decide +kernel
theorem dX2_placesOf_0 : decode cX2_placesOf 0 = .ok (.iconst 0, 1) := by decide +kernel
theorem dX2_placesOf_1 : decode cX2_placesOf 1 = .ok (.istore_n 2, 1) := by decide +kernel
theorem dX2_placesOf_2 : decode cX2_placesOf 2 = .ok (.iconst 0, 1) := by decide +kernel
theorem dX2_placesOf_3 : decode cX2_placesOf 3 = .ok (.istore_n 3, 1) := by decide +kernel
theorem dX2_placesOf_4 : decode cX2_placesOf 4 = .ok (.iload_n 3, 1) := by decide +kernel
theorem dX2_placesOf_5 : decode cX2_placesOf 5 = .ok (.aload_n 0, 1) := by decide +kernel
theorem dX2_placesOf_6 : decode cX2_placesOf 6 = .ok (.getfield 21, 3) := by decide +kernel
theorem dX2_placesOf_9 : decode cX2_placesOf 9 = .ok (.if_icmp .ge 21, 3) := by decide +kernel
theorem dX2_placesOf_12 : decode cX2_placesOf 12 = .ok (.aload_n 0, 1) := by decide +kernel
theorem dX2_placesOf_13 : decode cX2_placesOf 13 = .ok (.iload_n 3, 1) := by decide +kernel
theorem dX2_placesOf_14 : decode cX2_placesOf 14 = .ok (.invokevirtual 70, 3) := by decide +kernel
theorem dX2_placesOf_17 : decode cX2_placesOf 17 = .ok (.iload_n 1, 1) := by decide +kernel
theorem dX2_placesOf_18 : decode cX2_placesOf 18 = .ok (.if_icmp .ne 6, 3) := by decide +kernel
theorem dX2_placesOf_21 : decode cX2_placesOf 21 = .ok (.iinc 2 1, 3) := by decide +kernel
theorem dX2_placesOf_24 : decode cX2_placesOf 24 = .ok (.iinc 3 1, 3) := by decide +kernel
theorem dX2_placesOf_27 : decode cX2_placesOf 27 = .ok (.goto (-23), 3) := by decide +kernel
theorem dX2_placesOf_30 : decode cX2_placesOf 30 = .ok (.iload_n 2, 1) := by decide +kernel
theorem dX2_placesOf_31 : decode cX2_placesOf 31 = .ok (.ireturn, 1) := by decide +kernel
theorem dX2_valueOfRun_0 : decode cX2_valueOfRun 0 = .ok (.iconst 0, 1) := by decide +kernel
theorem dX2_valueOfRun_1 : decode cX2_valueOfRun 1 = .ok (.istore_n 2, 1) := by decide +kernel
theorem dX2_valueOfRun_2 : decode cX2_valueOfRun 2 = .ok (.iconst 0, 1) := by decide +kernel
theorem dX2_valueOfRun_3 : decode cX2_valueOfRun 3 = .ok (.istore_n 3, 1) := by decide +kernel
theorem dX2_valueOfRun_4 : decode cX2_valueOfRun 4 = .ok (.iload_n 3, 1) := by decide +kernel
theorem dX2_valueOfRun_5 : decode cX2_valueOfRun 5 = .ok (.aload_n 0, 1) := by decide +kernel
theorem dX2_valueOfRun_6 : decode cX2_valueOfRun 6 = .ok (.getfield 21, 3) := by decide +kernel
theorem dX2_valueOfRun_9 : decode cX2_valueOfRun 9 = .ok (.if_icmp .ge 30, 3) := by decide +kernel
theorem dX2_valueOfRun_12 : decode cX2_valueOfRun 12 = .ok (.aload_n 0, 1) := by decide +kernel
theorem dX2_valueOfRun_13 : decode cX2_valueOfRun 13 = .ok (.iload_n 3, 1) := by decide +kernel
theorem dX2_valueOfRun_14 : decode cX2_valueOfRun 14 = .ok (.invokevirtual 70, 3) := by decide +kernel
theorem dX2_valueOfRun_17 : decode cX2_valueOfRun 17 = .ok (.iload_n 1, 1) := by decide +kernel
theorem dX2_valueOfRun_18 : decode cX2_valueOfRun 18 = .ok (.if_icmp .ne 15, 3) := by decide +kernel
theorem dX2_valueOfRun_21 : decode cX2_valueOfRun 21 = .ok (.iload_n 2, 1) := by decide +kernel
theorem dX2_valueOfRun_22 : decode cX2_valueOfRun 22 = .ok (.aload_n 0, 1) := by decide +kernel
theorem dX2_valueOfRun_23 : decode cX2_valueOfRun 23 = .ok (.aload_n 0, 1) := by decide +kernel
theorem dX2_valueOfRun_24 : decode cX2_valueOfRun 24 = .ok (.iload_n 3, 1) := by decide +kernel
theorem dX2_valueOfRun_25 : decode cX2_valueOfRun 25 = .ok (.invokevirtual 73, 3) := by decide +kernel
theorem dX2_valueOfRun_28 : decode cX2_valueOfRun 28 = .ok (.invokevirtual 76, 3) := by decide +kernel
theorem dX2_valueOfRun_31 : decode cX2_valueOfRun 31 = .ok (.iadd, 1) := by decide +kernel
theorem dX2_valueOfRun_32 : decode cX2_valueOfRun 32 = .ok (.istore_n 2, 1) := by decide +kernel
theorem dX2_valueOfRun_33 : decode cX2_valueOfRun 33 = .ok (.iinc 3 1, 3) := by decide +kernel
theorem dX2_valueOfRun_36 : decode cX2_valueOfRun 36 = .ok (.goto (-32), 3) := by decide +kernel
theorem dX2_valueOfRun_39 : decode cX2_valueOfRun 39 = .ok (.iload_n 2, 1) := by decide +kernel
theorem dX2_valueOfRun_40 : decode cX2_valueOfRun 40 = .ok (.ireturn, 1) := by decide +kernel
theorem dX2_placesOfNobody_0 : decode cX2_placesOfNobody 0 = .ok (.iconst 0, 1) := by decide +kernel
theorem dX2_placesOfNobody_1 : decode cX2_placesOfNobody 1 = .ok (.istore_n 1, 1) := by decide +kernel
theorem dX2_placesOfNobody_2 : decode cX2_placesOfNobody 2 = .ok (.iconst 0, 1) := by decide +kernel
theorem dX2_placesOfNobody_3 : decode cX2_placesOfNobody 3 = .ok (.istore_n 2, 1) := by decide +kernel
theorem dX2_placesOfNobody_4 : decode cX2_placesOfNobody 4 = .ok (.iload_n 2, 1) := by decide +kernel
theorem dX2_placesOfNobody_5 : decode cX2_placesOfNobody 5 = .ok (.aload_n 0, 1) := by decide +kernel
theorem dX2_placesOfNobody_6 : decode cX2_placesOfNobody 6 = .ok (.getfield 21, 3) := by decide +kernel
theorem dX2_placesOfNobody_9 : decode cX2_placesOfNobody 9 = .ok (.if_icmp .ge 21, 3) := by decide +kernel
theorem dX2_placesOfNobody_12 : decode cX2_placesOfNobody 12 = .ok (.aload_n 0, 1) := by decide +kernel
theorem dX2_placesOfNobody_13 : decode cX2_placesOfNobody 13 = .ok (.iload_n 2, 1) := by decide +kernel
theorem dX2_placesOfNobody_14 : decode cX2_placesOfNobody 14 = .ok (.invokevirtual 54, 3) := by decide +kernel
theorem dX2_placesOfNobody_17 : decode cX2_placesOfNobody 17 = .ok (.iconst (-1), 1) := by decide +kernel
theorem dX2_placesOfNobody_18 : decode cX2_placesOfNobody 18 = .ok (.if_icmp .ne 6, 3) := by decide +kernel
theorem dX2_placesOfNobody_21 : decode cX2_placesOfNobody 21 = .ok (.iinc 1 1, 3) := by decide +kernel
theorem dX2_placesOfNobody_24 : decode cX2_placesOfNobody 24 = .ok (.iinc 2 1, 3) := by decide +kernel
theorem dX2_placesOfNobody_27 : decode cX2_placesOfNobody 27 = .ok (.goto (-23), 3) := by decide +kernel
theorem dX2_placesOfNobody_30 : decode cX2_placesOfNobody 30 = .ok (.iload_n 1, 1) := by decide +kernel
theorem dX2_placesOfNobody_31 : decode cX2_placesOfNobody 31 = .ok (.ireturn, 1) := by decide +kernel
theorem dX2_holding_0 : decode cX2_holding 0 = .ok (.iconst 0, 1) := by decide +kernel
theorem dX2_holding_1 : decode cX2_holding 1 = .ok (.istore_n 3, 1) := by decide +kernel
theorem dX2_holding_2 : decode cX2_holding 2 = .ok (.iconst 0, 1) := by decide +kernel
theorem dX2_holding_3 : decode cX2_holding 3 = .ok (.istore 4, 2) := by decide +kernel
theorem dX2_holding_5 : decode cX2_holding 5 = .ok (.iload 4, 2) := by decide +kernel
theorem dX2_holding_7 : decode cX2_holding 7 = .ok (.aload_n 0, 1) := by decide +kernel
theorem dX2_holding_8 : decode cX2_holding 8 = .ok (.getfield 21, 3) := by decide +kernel
theorem dX2_holding_11 : decode cX2_holding 11 = .ok (.if_icmp .ge 46, 3) := by decide +kernel
theorem dX2_holding_14 : decode cX2_holding 14 = .ok (.aload_n 0, 1) := by decide +kernel
theorem dX2_holding_15 : decode cX2_holding 15 = .ok (.iload 4, 2) := by decide +kernel
theorem dX2_holding_17 : decode cX2_holding 17 = .ok (.invokevirtual 73, 3) := by decide +kernel
theorem dX2_holding_20 : decode cX2_holding 20 = .ok (.istore 5, 2) := by decide +kernel
theorem dX2_holding_22 : decode cX2_holding 22 = .ok (.aload_n 0, 1) := by decide +kernel
theorem dX2_holding_23 : decode cX2_holding 23 = .ok (.iload 4, 2) := by decide +kernel
theorem dX2_holding_25 : decode cX2_holding 25 = .ok (.invokevirtual 54, 3) := by decide +kernel
theorem dX2_holding_28 : decode cX2_holding 28 = .ok (.iload_n 1, 1) := by decide +kernel
theorem dX2_holding_29 : decode cX2_holding 29 = .ok (.if_icmp .ne 22, 3) := by decide +kernel
theorem dX2_holding_32 : decode cX2_holding 32 = .ok (.aload_n 0, 1) := by decide +kernel
theorem dX2_holding_33 : decode cX2_holding 33 = .ok (.iload 5, 2) := by decide +kernel
theorem dX2_holding_35 : decode cX2_holding 35 = .ok (.invokevirtual 43, 3) := by decide +kernel
theorem dX2_holding_38 : decode cX2_holding 38 = .ok (.iload_n 2, 1) := by decide +kernel
theorem dX2_holding_39 : decode cX2_holding 39 = .ok (.if_icmp .ne 12, 3) := by decide +kernel
theorem dX2_holding_42 : decode cX2_holding 42 = .ok (.iload_n 3, 1) := by decide +kernel
theorem dX2_holding_43 : decode cX2_holding 43 = .ok (.aload_n 0, 1) := by decide +kernel
theorem dX2_holding_44 : decode cX2_holding 44 = .ok (.iload 5, 2) := by decide +kernel
theorem dX2_holding_46 : decode cX2_holding 46 = .ok (.invokevirtual 76, 3) := by decide +kernel
theorem dX2_holding_49 : decode cX2_holding 49 = .ok (.iadd, 1) := by decide +kernel
theorem dX2_holding_50 : decode cX2_holding 50 = .ok (.istore_n 3, 1) := by decide +kernel
theorem dX2_holding_51 : decode cX2_holding 51 = .ok (.iinc 4 1, 3) := by decide +kernel
theorem dX2_holding_54 : decode cX2_holding 54 = .ok (.goto (-49), 3) := by decide +kernel
theorem dX2_holding_57 : decode cX2_holding 57 = .ok (.iload_n 3, 1) := by decide +kernel
theorem dX2_holding_58 : decode cX2_holding 58 = .ok (.ireturn, 1) := by decide +kernel
theorem dX2_gap_0 : decode cX2_gap 0 = .ok (.iconst 0, 1) := by decide +kernel
theorem dX2_gap_1 : decode cX2_gap 1 = .ok (.istore_n 1, 1) := by decide +kernel
theorem dX2_gap_2 : decode cX2_gap 2 = .ok (.iconst 0, 1) := by decide +kernel
theorem dX2_gap_3 : decode cX2_gap 3 = .ok (.istore_n 2, 1) := by decide +kernel
theorem dX2_gap_4 : decode cX2_gap 4 = .ok (.iload_n 2, 1) := by decide +kernel
theorem dX2_gap_5 : decode cX2_gap 5 = .ok (.iconst 4, 1) := by decide +kernel
theorem dX2_gap_6 : decode cX2_gap 6 = .ok (.if_icmp .ge 28, 3) := by decide +kernel
theorem dX2_gap_9 : decode cX2_gap 9 = .ok (.iload_n 1, 1) := by decide +kernel
theorem dX2_gap_10 : decode cX2_gap 10 = .ok (.aload_n 0, 1) := by decide +kernel
theorem dX2_gap_11 : decode cX2_gap 11 = .ok (.iconst 0, 1) := by decide +kernel
theorem dX2_gap_12 : decode cX2_gap 12 = .ok (.iload_n 2, 1) := by decide +kernel
theorem dX2_gap_13 : decode cX2_gap 13 = .ok (.invokevirtual 79, 3) := by decide +kernel
theorem dX2_gap_16 : decode cX2_gap 16 = .ok (.aload_n 0, 1) := by decide +kernel
theorem dX2_gap_17 : decode cX2_gap 17 = .ok (.iconst 1, 1) := by decide +kernel
theorem dX2_gap_18 : decode cX2_gap 18 = .ok (.iload_n 2, 1) := by decide +kernel
theorem dX2_gap_19 : decode cX2_gap 19 = .ok (.invokevirtual 79, 3) := by decide +kernel
theorem dX2_gap_22 : decode cX2_gap 22 = .ok (.isub, 1) := by decide +kernel
theorem dX2_gap_23 : decode cX2_gap 23 = .ok (.invokestatic 83, 3) := by decide +kernel
theorem dX2_gap_26 : decode cX2_gap 26 = .ok (.iadd, 1) := by decide +kernel
theorem dX2_gap_27 : decode cX2_gap 27 = .ok (.istore_n 1, 1) := by decide +kernel
theorem dX2_gap_28 : decode cX2_gap 28 = .ok (.iinc 2 1, 3) := by decide +kernel
theorem dX2_gap_31 : decode cX2_gap 31 = .ok (.goto (-27), 3) := by decide +kernel
theorem dX2_gap_34 : decode cX2_gap 34 = .ok (.iload_n 1, 1) := by decide +kernel
theorem dX2_gap_35 : decode cX2_gap 35 = .ok (.ireturn, 1) := by decide +kernel
theorem dX2_isFair_0 : decode cX2_isFair 0 = .ok (.aload_n 0, 1) := by decide +kernel
theorem dX2_isFair_1 : decode cX2_isFair 1 = .ok (.invokevirtual 88, 3) := by decide +kernel
theorem dX2_isFair_4 : decode cX2_isFair 4 = .ok (.ifCond .ne 14, 3) := by decide +kernel
theorem dX2_isFair_7 : decode cX2_isFair 7 = .ok (.aload_n 0, 1) := by decide +kernel
theorem dX2_isFair_8 : decode cX2_isFair 8 = .ok (.invokevirtual 91, 3) := by decide +kernel
theorem dX2_isFair_11 : decode cX2_isFair 11 = .ok (.ifCond .ne 7, 3) := by decide +kernel
theorem dX2_isFair_14 : decode cX2_isFair 14 = .ok (.iconst 1, 1) := by decide +kernel
theorem dX2_isFair_15 : decode cX2_isFair 15 = .ok (.goto 4, 3) := by decide +kernel
theorem dX2_isFair_18 : decode cX2_isFair 18 = .ok (.iconst 0, 1) := by decide +kernel
theorem dX2_isFair_19 : decode cX2_isFair 19 = .ok (.ireturn, 1) := by decide +kernel
theorem dX2_reasonAgainstTaking_0 : decode cX2_reasonAgainstTaking 0 = .ok (.aload_n 0, 1) := by decide +kernel
theorem dX2_reasonAgainstTaking_1 : decode cX2_reasonAgainstTaking 1 = .ok (.aload_n 0, 1) := by decide +kernel
theorem dX2_reasonAgainstTaking_2 : decode cX2_reasonAgainstTaking 2 = .ok (.iload_n 1, 1) := by decide +kernel
theorem dX2_reasonAgainstTaking_3 : decode cX2_reasonAgainstTaking 3 = .ok (.invokevirtual 94, 3) := by decide +kernel
theorem dX2_reasonAgainstTaking_6 : decode cX2_reasonAgainstTaking 6 = .ok (.invokevirtual 54, 3) := by decide +kernel
theorem dX2_reasonAgainstTaking_9 : decode cX2_reasonAgainstTaking 9 = .ok (.istore_n 2, 1) := by decide +kernel
theorem dX2_reasonAgainstTaking_10 : decode cX2_reasonAgainstTaking 10 = .ok (.iload_n 2, 1) := by decide +kernel
theorem dX2_reasonAgainstTaking_11 : decode cX2_reasonAgainstTaking 11 = .ok (.iconst (-1), 1) := by decide +kernel
theorem dX2_reasonAgainstTaking_12 : decode cX2_reasonAgainstTaking 12 = .ok (.if_icmp .ne 5, 3) := by decide +kernel
theorem dX2_reasonAgainstTaking_15 : decode cX2_reasonAgainstTaking 15 = .ok (.iconst 0, 1) := by decide +kernel
theorem dX2_reasonAgainstTaking_16 : decode cX2_reasonAgainstTaking 16 = .ok (.ireturn, 1) := by decide +kernel
theorem dX2_reasonAgainstTaking_17 : decode cX2_reasonAgainstTaking 17 = .ok (.iload_n 2, 1) := by decide +kernel
theorem dX2_reasonAgainstTaking_18 : decode cX2_reasonAgainstTaking 18 = .ok (.aload_n 0, 1) := by decide +kernel
theorem dX2_reasonAgainstTaking_19 : decode cX2_reasonAgainstTaking 19 = .ok (.getfield 28, 3) := by decide +kernel
theorem dX2_reasonAgainstTaking_22 : decode cX2_reasonAgainstTaking 22 = .ok (.if_icmp .ne 7, 3) := by decide +kernel
theorem dX2_reasonAgainstTaking_25 : decode cX2_reasonAgainstTaking 25 = .ok (.iconst 2, 1) := by decide +kernel
theorem dX2_reasonAgainstTaking_26 : decode cX2_reasonAgainstTaking 26 = .ok (.goto 4, 3) := by decide +kernel
theorem dX2_reasonAgainstTaking_29 : decode cX2_reasonAgainstTaking 29 = .ok (.iconst 1, 1) := by decide +kernel
theorem dX2_reasonAgainstTaking_30 : decode cX2_reasonAgainstTaking 30 = .ok (.ireturn, 1) := by decide +kernel
theorem dX2_loosen_0 : decode cX2_loosen 0 = .ok (.aload_n 0, 1) := by decide +kernel
theorem dX2_loosen_1 : decode cX2_loosen 1 = .ok (.iconst 0, 1) := by decide +kernel
theorem dX2_loosen_2 : decode cX2_loosen 2 = .ok (.putfield 40, 3) := by decide +kernel
theorem dX2_loosen_5 : decode cX2_loosen 5 = .ok (.iconst 0, 1) := by decide +kernel
theorem dX2_loosen_6 : decode cX2_loosen 6 = .ok (.istore_n 1, 1) := by decide +kernel
theorem dX2_loosen_7 : decode cX2_loosen 7 = .ok (.iload_n 1, 1) := by decide +kernel
theorem dX2_loosen_8 : decode cX2_loosen 8 = .ok (.bipush 16, 2) := by decide +kernel
theorem dX2_loosen_10 : decode cX2_loosen 10 = .ok (.if_icmp .ge 15, 3) := by decide +kernel
theorem dX2_loosen_13 : decode cX2_loosen 13 = .ok (.aload_n 0, 1) := by decide +kernel
theorem dX2_loosen_14 : decode cX2_loosen 14 = .ok (.iload_n 1, 1) := by decide +kernel
theorem dX2_loosen_15 : decode cX2_loosen 15 = .ok (.iconst (-1), 1) := by decide +kernel
theorem dX2_loosen_16 : decode cX2_loosen 16 = .ok (.invokevirtual 57, 3) := by decide +kernel
theorem dX2_loosen_19 : decode cX2_loosen 19 = .ok (.iinc 1 1, 3) := by decide +kernel
theorem dX2_loosen_22 : decode cX2_loosen 22 = .ok (.goto (-15), 3) := by decide +kernel
theorem dX2_loosen_25 : decode cX2_loosen 25 = .ok (.return_, 1) := by decide +kernel
theorem dX2_addJewel_0 : decode cX2_addJewel 0 = .ok (.iload_n 1, 1) := by decide +kernel
theorem dX2_addJewel_1 : decode cX2_addJewel 1 = .ok (.invokestatic 97, 3) := by decide +kernel
theorem dX2_addJewel_4 : decode cX2_addJewel 4 = .ok (.ifCond .eq 19, 3) := by decide +kernel
theorem dX2_addJewel_7 : decode cX2_addJewel 7 = .ok (.iload_n 2, 1) := by decide +kernel
theorem dX2_addJewel_8 : decode cX2_addJewel 8 = .ok (.invokestatic 101, 3) := by decide +kernel
theorem dX2_addJewel_11 : decode cX2_addJewel 11 = .ok (.ifCond .eq 12, 3) := by decide +kernel
theorem dX2_addJewel_14 : decode cX2_addJewel 14 = .ok (.aload_n 0, 1) := by decide +kernel
theorem dX2_addJewel_15 : decode cX2_addJewel 15 = .ok (.getfield 21, 3) := by decide +kernel
theorem dX2_addJewel_18 : decode cX2_addJewel 18 = .ok (.bipush 16, 2) := by decide +kernel
theorem dX2_addJewel_20 : decode cX2_addJewel 20 = .ok (.if_icmp .lt 5, 3) := by decide +kernel
theorem dX2_addJewel_23 : decode cX2_addJewel 23 = .ok (.iconst 0, 1) := by decide +kernel
theorem dX2_addJewel_24 : decode cX2_addJewel 24 = .ok (.ireturn, 1) := by decide +kernel
theorem dX2_addJewel_25 : decode cX2_addJewel 25 = .ok (.aload_n 0, 1) := by decide +kernel
theorem dX2_addJewel_26 : decode cX2_addJewel 26 = .ok (.aload_n 0, 1) := by decide +kernel
theorem dX2_addJewel_27 : decode cX2_addJewel 27 = .ok (.getfield 21, 3) := by decide +kernel
theorem dX2_addJewel_30 : decode cX2_addJewel 30 = .ok (.iload_n 1, 1) := by decide +kernel
theorem dX2_addJewel_31 : decode cX2_addJewel 31 = .ok (.iload_n 2, 1) := by decide +kernel
theorem dX2_addJewel_32 : decode cX2_addJewel 32 = .ok (.invokevirtual 50, 3) := by decide +kernel
theorem dX2_addJewel_35 : decode cX2_addJewel 35 = .ok (.aload_n 0, 1) := by decide +kernel
theorem dX2_addJewel_36 : decode cX2_addJewel 36 = .ok (.dup, 1) := by decide +kernel
theorem dX2_addJewel_37 : decode cX2_addJewel 37 = .ok (.getfield 21, 3) := by decide +kernel
theorem dX2_addJewel_40 : decode cX2_addJewel 40 = .ok (.iconst 1, 1) := by decide +kernel
theorem dX2_addJewel_41 : decode cX2_addJewel 41 = .ok (.iadd, 1) := by decide +kernel
theorem dX2_addJewel_42 : decode cX2_addJewel 42 = .ok (.putfield 21, 3) := by decide +kernel
theorem dX2_addJewel_45 : decode cX2_addJewel 45 = .ok (.aload_n 0, 1) := by decide +kernel
theorem dX2_addJewel_46 : decode cX2_addJewel 46 = .ok (.invokevirtual 37, 3) := by decide +kernel
theorem dX2_addJewel_49 : decode cX2_addJewel 49 = .ok (.iconst 1, 1) := by decide +kernel
theorem dX2_addJewel_50 : decode cX2_addJewel 50 = .ok (.ireturn, 1) := by decide +kernel
theorem dX2_swapJewels_0 : decode cX2_swapJewels 0 = .ok (.aload_n 0, 1) := by decide +kernel
theorem dX2_swapJewels_1 : decode cX2_swapJewels 1 = .ok (.iload_n 1, 1) := by decide +kernel
theorem dX2_swapJewels_2 : decode cX2_swapJewels 2 = .ok (.invokevirtual 104, 3) := by decide +kernel
theorem dX2_swapJewels_5 : decode cX2_swapJewels 5 = .ok (.ifCond .eq 11, 3) := by decide +kernel
theorem dX2_swapJewels_8 : decode cX2_swapJewels 8 = .ok (.aload_n 0, 1) := by decide +kernel
theorem dX2_swapJewels_9 : decode cX2_swapJewels 9 = .ok (.iload_n 2, 1) := by decide +kernel
theorem dX2_swapJewels_10 : decode cX2_swapJewels 10 = .ok (.invokevirtual 104, 3) := by decide +kernel
theorem dX2_swapJewels_13 : decode cX2_swapJewels 13 = .ok (.ifCond .ne 5, 3) := by decide +kernel
theorem dX2_swapJewels_16 : decode cX2_swapJewels 16 = .ok (.iconst 0, 1) := by decide +kernel
theorem dX2_swapJewels_17 : decode cX2_swapJewels 17 = .ok (.ireturn, 1) := by decide +kernel
theorem dX2_swapJewels_18 : decode cX2_swapJewels 18 = .ok (.aload_n 0, 1) := by decide +kernel
theorem dX2_swapJewels_19 : decode cX2_swapJewels 19 = .ok (.iload_n 1, 1) := by decide +kernel
theorem dX2_swapJewels_20 : decode cX2_swapJewels 20 = .ok (.invokevirtual 43, 3) := by decide +kernel
theorem dX2_swapJewels_23 : decode cX2_swapJewels 23 = .ok (.istore_n 3, 1) := by decide +kernel
theorem dX2_swapJewels_24 : decode cX2_swapJewels 24 = .ok (.aload_n 0, 1) := by decide +kernel
theorem dX2_swapJewels_25 : decode cX2_swapJewels 25 = .ok (.iload_n 1, 1) := by decide +kernel
theorem dX2_swapJewels_26 : decode cX2_swapJewels 26 = .ok (.invokevirtual 47, 3) := by decide +kernel
theorem dX2_swapJewels_29 : decode cX2_swapJewels 29 = .ok (.istore 4, 2) := by decide +kernel
theorem dX2_swapJewels_31 : decode cX2_swapJewels 31 = .ok (.aload_n 0, 1) := by decide +kernel
theorem dX2_swapJewels_32 : decode cX2_swapJewels 32 = .ok (.iload_n 1, 1) := by decide +kernel
theorem dX2_swapJewels_33 : decode cX2_swapJewels 33 = .ok (.aload_n 0, 1) := by decide +kernel
theorem dX2_swapJewels_34 : decode cX2_swapJewels 34 = .ok (.iload_n 2, 1) := by decide +kernel
theorem dX2_swapJewels_35 : decode cX2_swapJewels 35 = .ok (.invokevirtual 43, 3) := by decide +kernel
theorem dX2_swapJewels_38 : decode cX2_swapJewels 38 = .ok (.aload_n 0, 1) := by decide +kernel
theorem dX2_swapJewels_39 : decode cX2_swapJewels 39 = .ok (.iload_n 2, 1) := by decide +kernel
theorem dX2_swapJewels_40 : decode cX2_swapJewels 40 = .ok (.invokevirtual 47, 3) := by decide +kernel
theorem dX2_swapJewels_43 : decode cX2_swapJewels 43 = .ok (.invokevirtual 50, 3) := by decide +kernel
theorem dX2_swapJewels_46 : decode cX2_swapJewels 46 = .ok (.aload_n 0, 1) := by decide +kernel
theorem dX2_swapJewels_47 : decode cX2_swapJewels 47 = .ok (.iload_n 2, 1) := by decide +kernel
theorem dX2_swapJewels_48 : decode cX2_swapJewels 48 = .ok (.iload_n 3, 1) := by decide +kernel
theorem dX2_swapJewels_49 : decode cX2_swapJewels 49 = .ok (.iload 4, 2) := by decide +kernel
theorem dX2_swapJewels_51 : decode cX2_swapJewels 51 = .ok (.invokevirtual 50, 3) := by decide +kernel
theorem dX2_swapJewels_54 : decode cX2_swapJewels 54 = .ok (.iconst 1, 1) := by decide +kernel
theorem dX2_swapJewels_55 : decode cX2_swapJewels 55 = .ok (.ireturn, 1) := by decide +kernel
theorem dX2_breakAhead_0 : decode cX2_breakAhead 0 = .ok (.aload_n 0, 1) := by decide +kernel
theorem dX2_breakAhead_1 : decode cX2_breakAhead 1 = .ok (.iload_n 1, 1) := by decide +kernel
theorem dX2_breakAhead_2 : decode cX2_breakAhead 2 = .ok (.invokevirtual 104, 3) := by decide +kernel
theorem dX2_breakAhead_5 : decode cX2_breakAhead 5 = .ok (.ifCond .ne 5, 3) := by decide +kernel
theorem dX2_breakAhead_8 : decode cX2_breakAhead 8 = .ok (.iconst 0, 1) := by decide +kernel
theorem dX2_breakAhead_9 : decode cX2_breakAhead 9 = .ok (.ireturn, 1) := by decide +kernel
theorem dX2_breakAhead_10 : decode cX2_breakAhead 10 = .ok (.aload_n 0, 1) := by decide +kernel
theorem dX2_breakAhead_11 : decode cX2_breakAhead 11 = .ok (.iload_n 1, 1) := by decide +kernel
theorem dX2_breakAhead_12 : decode cX2_breakAhead 12 = .ok (.putfield 25, 3) := by decide +kernel
theorem dX2_breakAhead_15 : decode cX2_breakAhead 15 = .ok (.aload_n 0, 1) := by decide +kernel
theorem dX2_breakAhead_16 : decode cX2_breakAhead 16 = .ok (.invokevirtual 37, 3) := by decide +kernel
theorem dX2_breakAhead_19 : decode cX2_breakAhead 19 = .ok (.iconst 1, 1) := by decide +kernel
theorem dX2_breakAhead_20 : decode cX2_breakAhead 20 = .ok (.ireturn, 1) := by decide +kernel
theorem dX2_reverseRing_0 : decode cX2_reverseRing 0 = .ok (.iconst 0, 1) := by decide +kernel
theorem dX2_reverseRing_1 : decode cX2_reverseRing 1 = .ok (.istore_n 1, 1) := by decide +kernel
theorem dX2_reverseRing_2 : decode cX2_reverseRing 2 = .ok (.iload_n 1, 1) := by decide +kernel
theorem dX2_reverseRing_3 : decode cX2_reverseRing 3 = .ok (.aload_n 0, 1) := by decide +kernel
theorem dX2_reverseRing_4 : decode cX2_reverseRing 4 = .ok (.getfield 21, 3) := by decide +kernel
theorem dX2_reverseRing_7 : decode cX2_reverseRing 7 = .ok (.iconst 1, 1) := by decide +kernel
theorem dX2_reverseRing_8 : decode cX2_reverseRing 8 = .ok (.isub, 1) := by decide +kernel
theorem dX2_reverseRing_9 : decode cX2_reverseRing 9 = .ok (.iload_n 1, 1) := by decide +kernel
theorem dX2_reverseRing_10 : decode cX2_reverseRing 10 = .ok (.isub, 1) := by decide +kernel
theorem dX2_reverseRing_11 : decode cX2_reverseRing 11 = .ok (.if_icmp .ge 23, 3) := by decide +kernel
theorem dX2_reverseRing_14 : decode cX2_reverseRing 14 = .ok (.aload_n 0, 1) := by decide +kernel
theorem dX2_reverseRing_15 : decode cX2_reverseRing 15 = .ok (.iload_n 1, 1) := by decide +kernel
theorem dX2_reverseRing_16 : decode cX2_reverseRing 16 = .ok (.aload_n 0, 1) := by decide +kernel
theorem dX2_reverseRing_17 : decode cX2_reverseRing 17 = .ok (.getfield 21, 3) := by decide +kernel
theorem dX2_reverseRing_20 : decode cX2_reverseRing 20 = .ok (.iconst 1, 1) := by decide +kernel
theorem dX2_reverseRing_21 : decode cX2_reverseRing 21 = .ok (.isub, 1) := by decide +kernel
theorem dX2_reverseRing_22 : decode cX2_reverseRing 22 = .ok (.iload_n 1, 1) := by decide +kernel
theorem dX2_reverseRing_23 : decode cX2_reverseRing 23 = .ok (.isub, 1) := by decide +kernel
theorem dX2_reverseRing_24 : decode cX2_reverseRing 24 = .ok (.invokevirtual 107, 3) := by decide +kernel
theorem dX2_reverseRing_27 : decode cX2_reverseRing 27 = .ok (.pop, 1) := by decide +kernel
theorem dX2_reverseRing_28 : decode cX2_reverseRing 28 = .ok (.iinc 1 1, 3) := by decide +kernel
theorem dX2_reverseRing_31 : decode cX2_reverseRing 31 = .ok (.goto (-29), 3) := by decide +kernel
theorem dX2_reverseRing_34 : decode cX2_reverseRing 34 = .ok (.aload_n 0, 1) := by decide +kernel
theorem dX2_reverseRing_35 : decode cX2_reverseRing 35 = .ok (.invokevirtual 37, 3) := by decide +kernel
theorem dX2_reverseRing_38 : decode cX2_reverseRing 38 = .ok (.return_, 1) := by decide +kernel
theorem dX2_setCut_0 : decode cX2_setCut 0 = .ok (.aload_n 0, 1) := by decide +kernel
theorem dX2_setCut_1 : decode cX2_setCut 1 = .ok (.iload_n 1, 1) := by decide +kernel
theorem dX2_setCut_2 : decode cX2_setCut 2 = .ok (.invokevirtual 111, 3) := by decide +kernel
theorem dX2_setCut_5 : decode cX2_setCut 5 = .ok (.ifCond .ne 5, 3) := by decide +kernel
theorem dX2_setCut_8 : decode cX2_setCut 8 = .ok (.iconst 0, 1) := by decide +kernel
theorem dX2_setCut_9 : decode cX2_setCut 9 = .ok (.ireturn, 1) := by decide +kernel
theorem dX2_setCut_10 : decode cX2_setCut 10 = .ok (.iload_n 2, 1) := by decide +kernel
theorem dX2_setCut_11 : decode cX2_setCut 11 = .ok (.ifCond .eq 18, 3) := by decide +kernel
theorem dX2_setCut_14 : decode cX2_setCut 14 = .ok (.aload_n 0, 1) := by decide +kernel
theorem dX2_setCut_15 : decode cX2_setCut 15 = .ok (.dup, 1) := by decide +kernel
theorem dX2_setCut_16 : decode cX2_setCut 16 = .ok (.getfield 40, 3) := by decide +kernel
theorem dX2_setCut_19 : decode cX2_setCut 19 = .ok (.iconst 1, 1) := by decide +kernel
theorem dX2_setCut_20 : decode cX2_setCut 20 = .ok (.iload_n 1, 1) := by decide +kernel
theorem dX2_setCut_21 : decode cX2_setCut 21 = .ok (.ishl, 1) := by decide +kernel
theorem dX2_setCut_22 : decode cX2_setCut 22 = .ok (.ior, 1) := by decide +kernel
theorem dX2_setCut_23 : decode cX2_setCut 23 = .ok (.putfield 40, 3) := by decide +kernel
theorem dX2_setCut_26 : decode cX2_setCut 26 = .ok (.goto 42, 3) := by decide +kernel
theorem dX2_setCut_29 : decode cX2_setCut 29 = .ok (.aload_n 0, 1) := by decide +kernel
theorem dX2_setCut_30 : decode cX2_setCut 30 = .ok (.iload_n 1, 1) := by decide +kernel
theorem dX2_setCut_31 : decode cX2_setCut 31 = .ok (.invokevirtual 114, 3) := by decide +kernel
theorem dX2_setCut_34 : decode cX2_setCut 34 = .ok (.ifCond .eq 34, 3) := by decide +kernel
theorem dX2_setCut_37 : decode cX2_setCut 37 = .ok (.aload_n 0, 1) := by decide +kernel
theorem dX2_setCut_38 : decode cX2_setCut 38 = .ok (.dup, 1) := by decide +kernel
theorem dX2_setCut_39 : decode cX2_setCut 39 = .ok (.getfield 40, 3) := by decide +kernel
theorem dX2_setCut_42 : decode cX2_setCut 42 = .ok (.iconst 1, 1) := by decide +kernel
theorem dX2_setCut_43 : decode cX2_setCut 43 = .ok (.iload_n 1, 1) := by decide +kernel
theorem dX2_setCut_44 : decode cX2_setCut 44 = .ok (.ishl, 1) := by decide +kernel
theorem dX2_setCut_45 : decode cX2_setCut 45 = .ok (.iconst (-1), 1) := by decide +kernel
theorem dX2_setCut_46 : decode cX2_setCut 46 = .ok (.ixor, 1) := by decide +kernel
theorem dX2_setCut_47 : decode cX2_setCut 47 = .ok (.iand, 1) := by decide +kernel
theorem dX2_setCut_48 : decode cX2_setCut 48 = .ok (.putfield 40, 3) := by decide +kernel
theorem dX2_setCut_51 : decode cX2_setCut 51 = .ok (.aload_n 0, 1) := by decide +kernel
theorem dX2_setCut_52 : decode cX2_setCut 52 = .ok (.aload_n 0, 1) := by decide +kernel
theorem dX2_setCut_53 : decode cX2_setCut 53 = .ok (.iload_n 1, 1) := by decide +kernel
theorem dX2_setCut_54 : decode cX2_setCut 54 = .ok (.invokevirtual 70, 3) := by decide +kernel
theorem dX2_setCut_57 : decode cX2_setCut 57 = .ok (.aload_n 0, 1) := by decide +kernel
theorem dX2_setCut_58 : decode cX2_setCut 58 = .ok (.iload_n 1, 1) := by decide +kernel
theorem dX2_setCut_59 : decode cX2_setCut 59 = .ok (.iconst 1, 1) := by decide +kernel
theorem dX2_setCut_60 : decode cX2_setCut 60 = .ok (.isub, 1) := by decide +kernel
theorem dX2_setCut_61 : decode cX2_setCut 61 = .ok (.invokevirtual 54, 3) := by decide +kernel
theorem dX2_setCut_64 : decode cX2_setCut 64 = .ok (.invokevirtual 117, 3) := by decide +kernel
theorem dX2_setCut_67 : decode cX2_setCut 67 = .ok (.pop, 1) := by decide +kernel
theorem dX2_setCut_68 : decode cX2_setCut 68 = .ok (.iconst 1, 1) := by decide +kernel
theorem dX2_setCut_69 : decode cX2_setCut 69 = .ok (.ireturn, 1) := by decide +kernel
theorem dX2_giveRun_0 : decode cX2_giveRun 0 = .ok (.aload_n 0, 1) := by decide +kernel
theorem dX2_giveRun_1 : decode cX2_giveRun 1 = .ok (.iload_n 1, 1) := by decide +kernel
theorem dX2_giveRun_2 : decode cX2_giveRun 2 = .ok (.invokevirtual 120, 3) := by decide +kernel
theorem dX2_giveRun_5 : decode cX2_giveRun 5 = .ok (.ifCond .eq 10, 3) := by decide +kernel
theorem dX2_giveRun_8 : decode cX2_giveRun 8 = .ok (.iload_n 2, 1) := by decide +kernel
theorem dX2_giveRun_9 : decode cX2_giveRun 9 = .ok (.invokestatic 123, 3) := by decide +kernel
theorem dX2_giveRun_12 : decode cX2_giveRun 12 = .ok (.ifCond .ne 5, 3) := by decide +kernel
theorem dX2_giveRun_15 : decode cX2_giveRun 15 = .ok (.iconst 0, 1) := by decide +kernel
theorem dX2_giveRun_16 : decode cX2_giveRun 16 = .ok (.ireturn, 1) := by decide +kernel
theorem dX2_giveRun_17 : decode cX2_giveRun 17 = .ok (.iconst 0, 1) := by decide +kernel
theorem dX2_giveRun_18 : decode cX2_giveRun 18 = .ok (.istore_n 3, 1) := by decide +kernel
theorem dX2_giveRun_19 : decode cX2_giveRun 19 = .ok (.iload_n 3, 1) := by decide +kernel
theorem dX2_giveRun_20 : decode cX2_giveRun 20 = .ok (.aload_n 0, 1) := by decide +kernel
theorem dX2_giveRun_21 : decode cX2_giveRun 21 = .ok (.getfield 21, 3) := by decide +kernel
theorem dX2_giveRun_24 : decode cX2_giveRun 24 = .ok (.if_icmp .ge 24, 3) := by decide +kernel
theorem dX2_giveRun_27 : decode cX2_giveRun 27 = .ok (.aload_n 0, 1) := by decide +kernel
theorem dX2_giveRun_28 : decode cX2_giveRun 28 = .ok (.iload_n 3, 1) := by decide +kernel
theorem dX2_giveRun_29 : decode cX2_giveRun 29 = .ok (.invokevirtual 70, 3) := by decide +kernel
theorem dX2_giveRun_32 : decode cX2_giveRun 32 = .ok (.iload_n 1, 1) := by decide +kernel
theorem dX2_giveRun_33 : decode cX2_giveRun 33 = .ok (.if_icmp .ne 9, 3) := by decide +kernel
theorem dX2_giveRun_36 : decode cX2_giveRun 36 = .ok (.aload_n 0, 1) := by decide +kernel
theorem dX2_giveRun_37 : decode cX2_giveRun 37 = .ok (.iload_n 3, 1) := by decide +kernel
theorem dX2_giveRun_38 : decode cX2_giveRun 38 = .ok (.iload_n 2, 1) := by decide +kernel
theorem dX2_giveRun_39 : decode cX2_giveRun 39 = .ok (.invokevirtual 57, 3) := by decide +kernel
theorem dX2_giveRun_42 : decode cX2_giveRun 42 = .ok (.iinc 3 1, 3) := by decide +kernel
theorem dX2_giveRun_45 : decode cX2_giveRun 45 = .ok (.goto (-26), 3) := by decide +kernel
theorem dX2_giveRun_48 : decode cX2_giveRun 48 = .ok (.iconst 1, 1) := by decide +kernel
theorem dX2_giveRun_49 : decode cX2_giveRun 49 = .ok (.ireturn, 1) := by decide +kernel
theorem dX2_takeRun_0 : decode cX2_takeRun 0 = .ok (.aload_n 0, 1) := by decide +kernel
theorem dX2_takeRun_1 : decode cX2_takeRun 1 = .ok (.iload_n 1, 1) := by decide +kernel
theorem dX2_takeRun_2 : decode cX2_takeRun 2 = .ok (.invokevirtual 120, 3) := by decide +kernel
theorem dX2_takeRun_5 : decode cX2_takeRun 5 = .ok (.ifCond .eq 11, 3) := by decide +kernel
theorem dX2_takeRun_8 : decode cX2_takeRun 8 = .ok (.aload_n 0, 1) := by decide +kernel
theorem dX2_takeRun_9 : decode cX2_takeRun 9 = .ok (.iload_n 1, 1) := by decide +kernel
theorem dX2_takeRun_10 : decode cX2_takeRun 10 = .ok (.invokevirtual 126, 3) := by decide +kernel
theorem dX2_takeRun_13 : decode cX2_takeRun 13 = .ok (.ifCond .eq 5, 3) := by decide +kernel
theorem dX2_takeRun_16 : decode cX2_takeRun 16 = .ok (.iconst 0, 1) := by decide +kernel
theorem dX2_takeRun_17 : decode cX2_takeRun 17 = .ok (.ireturn, 1) := by decide +kernel
theorem dX2_takeRun_18 : decode cX2_takeRun 18 = .ok (.aload_n 0, 1) := by decide +kernel
theorem dX2_takeRun_19 : decode cX2_takeRun 19 = .ok (.iload_n 1, 1) := by decide +kernel
theorem dX2_takeRun_20 : decode cX2_takeRun 20 = .ok (.aload_n 0, 1) := by decide +kernel
theorem dX2_takeRun_21 : decode cX2_takeRun 21 = .ok (.getfield 28, 3) := by decide +kernel
theorem dX2_takeRun_24 : decode cX2_takeRun 24 = .ok (.invokevirtual 117, 3) := by decide +kernel
theorem dX2_takeRun_27 : decode cX2_takeRun 27 = .ok (.pop, 1) := by decide +kernel
theorem dX2_takeRun_28 : decode cX2_takeRun 28 = .ok (.aload_n 0, 1) := by decide +kernel
theorem dX2_takeRun_29 : decode cX2_takeRun 29 = .ok (.iconst 1, 1) := by decide +kernel
theorem dX2_takeRun_30 : decode cX2_takeRun 30 = .ok (.aload_n 0, 1) := by decide +kernel
theorem dX2_takeRun_31 : decode cX2_takeRun 31 = .ok (.getfield 28, 3) := by decide +kernel
theorem dX2_takeRun_34 : decode cX2_takeRun 34 = .ok (.isub, 1) := by decide +kernel
theorem dX2_takeRun_35 : decode cX2_takeRun 35 = .ok (.putfield 28, 3) := by decide +kernel
theorem dX2_takeRun_38 : decode cX2_takeRun 38 = .ok (.iconst 1, 1) := by decide +kernel
theorem dX2_takeRun_39 : decode cX2_takeRun 39 = .ok (.ireturn, 1) := by decide +kernel
theorem dX2_dealRuns_0 : decode cX2_dealRuns 0 = .ok (.iload_n 1, 1) := by decide +kernel
theorem dX2_dealRuns_1 : decode cX2_dealRuns 1 = .ok (.invokestatic 129, 3) := by decide +kernel
theorem dX2_dealRuns_4 : decode cX2_dealRuns 4 = .ok (.ifCond .ne 5, 3) := by decide +kernel
theorem dX2_dealRuns_7 : decode cX2_dealRuns 7 = .ok (.iconst 0, 1) := by decide +kernel
theorem dX2_dealRuns_8 : decode cX2_dealRuns 8 = .ok (.ireturn, 1) := by decide +kernel
theorem dX2_dealRuns_9 : decode cX2_dealRuns 9 = .ok (.iconst 0, 1) := by decide +kernel
theorem dX2_dealRuns_10 : decode cX2_dealRuns 10 = .ok (.istore_n 2, 1) := by decide +kernel
theorem dX2_dealRuns_11 : decode cX2_dealRuns 11 = .ok (.iload_n 2, 1) := by decide +kernel
theorem dX2_dealRuns_12 : decode cX2_dealRuns 12 = .ok (.aload_n 0, 1) := by decide +kernel
theorem dX2_dealRuns_13 : decode cX2_dealRuns 13 = .ok (.getfield 21, 3) := by decide +kernel
theorem dX2_dealRuns_16 : decode cX2_dealRuns 16 = .ok (.if_icmp .ge 23, 3) := by decide +kernel
theorem dX2_dealRuns_19 : decode cX2_dealRuns 19 = .ok (.aload_n 0, 1) := by decide +kernel
theorem dX2_dealRuns_20 : decode cX2_dealRuns 20 = .ok (.iload_n 2, 1) := by decide +kernel
theorem dX2_dealRuns_21 : decode cX2_dealRuns 21 = .ok (.iload_n 1, 1) := by decide +kernel
theorem dX2_dealRuns_22 : decode cX2_dealRuns 22 = .ok (.aload_n 0, 1) := by decide +kernel
theorem dX2_dealRuns_23 : decode cX2_dealRuns 23 = .ok (.iload_n 2, 1) := by decide +kernel
theorem dX2_dealRuns_24 : decode cX2_dealRuns 24 = .ok (.invokevirtual 70, 3) := by decide +kernel
theorem dX2_dealRuns_27 : decode cX2_dealRuns 27 = .ok (.iadd, 1) := by decide +kernel
theorem dX2_dealRuns_28 : decode cX2_dealRuns 28 = .ok (.iconst 1, 1) := by decide +kernel
theorem dX2_dealRuns_29 : decode cX2_dealRuns 29 = .ok (.iand, 1) := by decide +kernel
theorem dX2_dealRuns_30 : decode cX2_dealRuns 30 = .ok (.invokevirtual 57, 3) := by decide +kernel
theorem dX2_dealRuns_33 : decode cX2_dealRuns 33 = .ok (.iinc 2 1, 3) := by decide +kernel
theorem dX2_dealRuns_36 : decode cX2_dealRuns 36 = .ok (.goto (-25), 3) := by decide +kernel
theorem dX2_dealRuns_39 : decode cX2_dealRuns 39 = .ok (.iconst 1, 1) := by decide +kernel
theorem dX2_dealRuns_40 : decode cX2_dealRuns 40 = .ok (.ireturn, 1) := by decide +kernel
theorem dX2_chooseSetting_0 : decode cX2_chooseSetting 0 = .ok (.iload_n 1, 1) := by decide +kernel
theorem dX2_chooseSetting_1 : decode cX2_chooseSetting 1 = .ok (.invokestatic 132, 3) := by decide +kernel
theorem dX2_chooseSetting_4 : decode cX2_chooseSetting 4 = .ok (.ifCond .ne 5, 3) := by decide +kernel
theorem dX2_chooseSetting_7 : decode cX2_chooseSetting 7 = .ok (.iconst 0, 1) := by decide +kernel
theorem dX2_chooseSetting_8 : decode cX2_chooseSetting 8 = .ok (.ireturn, 1) := by decide +kernel
theorem dX2_chooseSetting_9 : decode cX2_chooseSetting 9 = .ok (.aload_n 0, 1) := by decide +kernel
theorem dX2_chooseSetting_10 : decode cX2_chooseSetting 10 = .ok (.iload_n 1, 1) := by decide +kernel
theorem dX2_chooseSetting_11 : decode cX2_chooseSetting 11 = .ok (.putfield 34, 3) := by decide +kernel
theorem dX2_chooseSetting_14 : decode cX2_chooseSetting 14 = .ok (.iconst 1, 1) := by decide +kernel
theorem dX2_chooseSetting_15 : decode cX2_chooseSetting 15 = .ok (.ireturn, 1) := by decide +kernel
theorem dX3_groupsAbove_0 : decode cX3_groupsAbove 0 = .ok (.lload_n 0, 1) := by decide +kernel
theorem dX3_groupsAbove_1 : decode cX3_groupsAbove 1 = .ok (.lstore_n 3, 1) := by decide +kernel
theorem dX3_groupsAbove_2 : decode cX3_groupsAbove 2 = .ok (.iconst 0, 1) := by decide +kernel
theorem dX3_groupsAbove_3 : decode cX3_groupsAbove 3 = .ok (.istore 5, 2) := by decide +kernel
theorem dX3_groupsAbove_5 : decode cX3_groupsAbove 5 = .ok (.iload 5, 2) := by decide +kernel
theorem dX3_groupsAbove_7 : decode cX3_groupsAbove 7 = .ok (.iload_n 2, 1) := by decide +kernel
theorem dX3_groupsAbove_8 : decode cX3_groupsAbove 8 = .ok (.if_icmp .ge 15, 3) := by decide +kernel
theorem dX3_groupsAbove_11 : decode cX3_groupsAbove 11 = .ok (.lload_n 3, 1) := by decide +kernel
theorem dX3_groupsAbove_12 : decode cX3_groupsAbove 12 = .ok (.ldc2_w 9, 3) := by decide +kernel
theorem dX3_groupsAbove_15 : decode cX3_groupsAbove 15 = .ok (.ldiv, 1) := by decide +kernel
theorem dX3_groupsAbove_16 : decode cX3_groupsAbove 16 = .ok (.lstore_n 3, 1) := by decide +kernel
theorem dX3_groupsAbove_17 : decode cX3_groupsAbove 17 = .ok (.iinc 5 1, 3) := by decide +kernel
theorem dX3_groupsAbove_20 : decode cX3_groupsAbove 20 = .ok (.goto (-15), 3) := by decide +kernel
theorem dX3_groupsAbove_23 : decode cX3_groupsAbove 23 = .ok (.lload_n 3, 1) := by decide +kernel
theorem dX3_groupsAbove_24 : decode cX3_groupsAbove 24 = .ok (.lreturn, 1) := by decide +kernel
theorem dX3_succeeds_0 : decode cX3_succeeds 0 = .ok (.aload_n 1, 1) := by decide +kernel
theorem dX3_succeeds_1 : decode cX3_succeeds 1 = .ok (.ifnull 7, 3) := by decide +kernel
theorem dX3_succeeds_4 : decode cX3_succeeds 4 = .ok (.aload_n 2, 1) := by decide +kernel
theorem dX3_succeeds_5 : decode cX3_succeeds 5 = .ok (.ifnonnull 5, 3) := by decide +kernel
theorem dX3_succeeds_8 : decode cX3_succeeds 8 = .ok (.iconst 0, 1) := by decide +kernel
theorem dX3_succeeds_9 : decode cX3_succeeds 9 = .ok (.ireturn, 1) := by decide +kernel
theorem dX3_succeeds_10 : decode cX3_succeeds 10 = .ok (.iload_n 0, 1) := by decide +kernel
theorem dX3_succeeds_11 : decode cX3_succeeds 11 = .ok (.bipush 100, 2) := by decide +kernel
theorem dX3_succeeds_13 : decode cX3_succeeds 13 = .ok (.idiv, 1) := by decide +kernel
theorem dX3_succeeds_14 : decode cX3_succeeds 14 = .ok (.bipush 100, 2) := by decide +kernel
theorem dX3_succeeds_16 : decode cX3_succeeds 16 = .ok (.irem, 1) := by decide +kernel
theorem dX3_succeeds_17 : decode cX3_succeeds 17 = .ok (.istore_n 3, 1) := by decide +kernel
theorem dX3_succeeds_18 : decode cX3_succeeds 18 = .ok (.iload_n 0, 1) := by decide +kernel
theorem dX3_succeeds_19 : decode cX3_succeeds 19 = .ok (.bipush 10, 2) := by decide +kernel
theorem dX3_succeeds_21 : decode cX3_succeeds 21 = .ok (.idiv, 1) := by decide +kernel
theorem dX3_succeeds_22 : decode cX3_succeeds 22 = .ok (.bipush 10, 2) := by decide +kernel
theorem dX3_succeeds_24 : decode cX3_succeeds 24 = .ok (.irem, 1) := by decide +kernel
theorem dX3_succeeds_25 : decode cX3_succeeds 25 = .ok (.istore 4, 2) := by decide +kernel
theorem dX3_succeeds_27 : decode cX3_succeeds 27 = .ok (.iload_n 0, 1) := by decide +kernel
theorem dX3_succeeds_28 : decode cX3_succeeds 28 = .ok (.bipush 10, 2) := by decide +kernel
theorem dX3_succeeds_30 : decode cX3_succeeds 30 = .ok (.irem, 1) := by decide +kernel
theorem dX3_succeeds_31 : decode cX3_succeeds 31 = .ok (.istore 5, 2) := by decide +kernel
theorem dX3_succeeds_33 : decode cX3_succeeds 33 = .ok (.iload_n 0, 1) := by decide +kernel
theorem dX3_succeeds_34 : decode cX3_succeeds 34 = .ok (.sipush 10000, 3) := by decide +kernel
theorem dX3_succeeds_37 : decode cX3_succeeds 37 = .ok (.idiv, 1) := by decide +kernel
theorem dX3_succeeds_38 : decode cX3_succeeds 38 = .ok (.tableswitch 317 1 9 #[50, 86, 116, 140, 164, 188, 209, 234, 272], 50) := by decide +kernel
theorem dX3_succeeds_88 : decode cX3_succeeds 88 = .ok (.iload 4, 2) := by decide +kernel
theorem dX3_succeeds_90 : decode cX3_succeeds 90 = .ok (.ifCond .ne 32, 3) := by decide +kernel
theorem dX3_succeeds_93 : decode cX3_succeeds 93 = .ok (.iload 5, 2) := by decide +kernel
theorem dX3_succeeds_95 : decode cX3_succeeds 95 = .ok (.iconst 1, 1) := by decide +kernel
theorem dX3_succeeds_96 : decode cX3_succeeds 96 = .ok (.if_icmp .gt 26, 3) := by decide +kernel
theorem dX3_succeeds_99 : decode cX3_succeeds 99 = .ok (.aload_n 1, 1) := by decide +kernel
theorem dX3_succeeds_100 : decode cX3_succeeds 100 = .ok (.iload_n 3, 1) := by decide +kernel
theorem dX3_succeeds_101 : decode cX3_succeeds 101 = .ok (.iload 5, 2) := by decide +kernel
theorem dX3_succeeds_103 : decode cX3_succeeds 103 = .ok (.iconst 1, 1) := by decide +kernel
theorem dX3_succeeds_104 : decode cX3_succeeds 104 = .ok (.if_icmp .ne 7, 3) := by decide +kernel
theorem dX3_succeeds_107 : decode cX3_succeeds 107 = .ok (.iconst 1, 1) := by decide +kernel
theorem dX3_succeeds_108 : decode cX3_succeeds 108 = .ok (.goto 4, 3) := by decide +kernel
theorem dX3_succeeds_111 : decode cX3_succeeds 111 = .ok (.iconst 0, 1) := by decide +kernel
theorem dX3_succeeds_112 : decode cX3_succeeds 112 = .ok (.invokevirtual 11, 3) := by decide +kernel
theorem dX3_succeeds_115 : decode cX3_succeeds 115 = .ok (.ifCond .eq 7, 3) := by decide +kernel
theorem dX3_succeeds_118 : decode cX3_succeeds 118 = .ok (.iconst 1, 1) := by decide +kernel
theorem dX3_succeeds_119 : decode cX3_succeeds 119 = .ok (.goto 4, 3) := by decide +kernel
theorem dX3_succeeds_122 : decode cX3_succeeds 122 = .ok (.iconst 0, 1) := by decide +kernel
theorem dX3_succeeds_123 : decode cX3_succeeds 123 = .ok (.ireturn, 1) := by decide +kernel
theorem dX3_succeeds_124 : decode cX3_succeeds 124 = .ok (.iload 4, 2) := by decide +kernel
theorem dX3_succeeds_126 : decode cX3_succeeds 126 = .ok (.ifCond .ne 26, 3) := by decide +kernel
theorem dX3_succeeds_129 : decode cX3_succeeds 129 = .ok (.iload 5, 2) := by decide +kernel
theorem dX3_succeeds_131 : decode cX3_succeeds 131 = .ok (.iconst 2, 1) := by decide +kernel
theorem dX3_succeeds_132 : decode cX3_succeeds 132 = .ok (.if_icmp .gt 20, 3) := by decide +kernel
theorem dX3_succeeds_135 : decode cX3_succeeds 135 = .ok (.aload_n 1, 1) := by decide +kernel
theorem dX3_succeeds_136 : decode cX3_succeeds 136 = .ok (.iload_n 3, 1) := by decide +kernel
theorem dX3_succeeds_137 : decode cX3_succeeds 137 = .ok (.iload 5, 2) := by decide +kernel
theorem dX3_succeeds_139 : decode cX3_succeeds 139 = .ok (.invokestatic 17, 3) := by decide +kernel
theorem dX3_succeeds_142 : decode cX3_succeeds 142 = .ok (.invokevirtual 21, 3) := by decide +kernel
theorem dX3_succeeds_145 : decode cX3_succeeds 145 = .ok (.ifCond .eq 7, 3) := by decide +kernel
theorem dX3_succeeds_148 : decode cX3_succeeds 148 = .ok (.iconst 1, 1) := by decide +kernel
theorem dX3_succeeds_149 : decode cX3_succeeds 149 = .ok (.goto 4, 3) := by decide +kernel
theorem dX3_succeeds_152 : decode cX3_succeeds 152 = .ok (.iconst 0, 1) := by decide +kernel
theorem dX3_succeeds_153 : decode cX3_succeeds 153 = .ok (.ireturn, 1) := by decide +kernel
theorem dX3_succeeds_154 : decode cX3_succeeds 154 = .ok (.iload 4, 2) := by decide +kernel
theorem dX3_succeeds_156 : decode cX3_succeeds 156 = .ok (.ifCond .ne 20, 3) := by decide +kernel
theorem dX3_succeeds_159 : decode cX3_succeeds 159 = .ok (.iload 5, 2) := by decide +kernel
theorem dX3_succeeds_161 : decode cX3_succeeds 161 = .ok (.ifCond .ne 15, 3) := by decide +kernel
theorem dX3_succeeds_164 : decode cX3_succeeds 164 = .ok (.aload_n 1, 1) := by decide +kernel
theorem dX3_succeeds_165 : decode cX3_succeeds 165 = .ok (.iload_n 3, 1) := by decide +kernel
theorem dX3_succeeds_166 : decode cX3_succeeds 166 = .ok (.invokevirtual 25, 3) := by decide +kernel
theorem dX3_succeeds_169 : decode cX3_succeeds 169 = .ok (.ifCond .eq 7, 3) := by decide +kernel
theorem dX3_succeeds_172 : decode cX3_succeeds 172 = .ok (.iconst 1, 1) := by decide +kernel
theorem dX3_succeeds_173 : decode cX3_succeeds 173 = .ok (.goto 4, 3) := by decide +kernel
theorem dX3_succeeds_176 : decode cX3_succeeds 176 = .ok (.iconst 0, 1) := by decide +kernel
theorem dX3_succeeds_177 : decode cX3_succeeds 177 = .ok (.ireturn, 1) := by decide +kernel
theorem dX3_succeeds_178 : decode cX3_succeeds 178 = .ok (.iload_n 3, 1) := by decide +kernel
theorem dX3_succeeds_179 : decode cX3_succeeds 179 = .ok (.ifCond .ne 21, 3) := by decide +kernel
theorem dX3_succeeds_182 : decode cX3_succeeds 182 = .ok (.iload 4, 2) := by decide +kernel
theorem dX3_succeeds_184 : decode cX3_succeeds 184 = .ok (.ifCond .ne 16, 3) := by decide +kernel
theorem dX3_succeeds_187 : decode cX3_succeeds 187 = .ok (.aload_n 1, 1) := by decide +kernel
theorem dX3_succeeds_188 : decode cX3_succeeds 188 = .ok (.iload 5, 2) := by decide +kernel
theorem dX3_succeeds_190 : decode cX3_succeeds 190 = .ok (.invokevirtual 29, 3) := by decide +kernel
theorem dX3_succeeds_193 : decode cX3_succeeds 193 = .ok (.ifCond .eq 7, 3) := by decide +kernel
theorem dX3_succeeds_196 : decode cX3_succeeds 196 = .ok (.iconst 1, 1) := by decide +kernel
theorem dX3_succeeds_197 : decode cX3_succeeds 197 = .ok (.goto 4, 3) := by decide +kernel
theorem dX3_succeeds_200 : decode cX3_succeeds 200 = .ok (.iconst 0, 1) := by decide +kernel
theorem dX3_succeeds_201 : decode cX3_succeeds 201 = .ok (.ireturn, 1) := by decide +kernel
theorem dX3_succeeds_202 : decode cX3_succeeds 202 = .ok (.iload 4, 2) := by decide +kernel
theorem dX3_succeeds_204 : decode cX3_succeeds 204 = .ok (.ifCond .ne 20, 3) := by decide +kernel
theorem dX3_succeeds_207 : decode cX3_succeeds 207 = .ok (.iload 5, 2) := by decide +kernel
theorem dX3_succeeds_209 : decode cX3_succeeds 209 = .ok (.ifCond .ne 15, 3) := by decide +kernel
theorem dX3_succeeds_212 : decode cX3_succeeds 212 = .ok (.aload_n 1, 1) := by decide +kernel
theorem dX3_succeeds_213 : decode cX3_succeeds 213 = .ok (.iload_n 3, 1) := by decide +kernel
theorem dX3_succeeds_214 : decode cX3_succeeds 214 = .ok (.invokevirtual 32, 3) := by decide +kernel
theorem dX3_succeeds_217 : decode cX3_succeeds 217 = .ok (.ifCond .eq 7, 3) := by decide +kernel
theorem dX3_succeeds_220 : decode cX3_succeeds 220 = .ok (.iconst 1, 1) := by decide +kernel
theorem dX3_succeeds_221 : decode cX3_succeeds 221 = .ok (.goto 4, 3) := by decide +kernel
theorem dX3_succeeds_224 : decode cX3_succeeds 224 = .ok (.iconst 0, 1) := by decide +kernel
theorem dX3_succeeds_225 : decode cX3_succeeds 225 = .ok (.ireturn, 1) := by decide +kernel
theorem dX3_succeeds_226 : decode cX3_succeeds 226 = .ok (.iload_n 3, 1) := by decide +kernel
theorem dX3_succeeds_227 : decode cX3_succeeds 227 = .ok (.ifCond .ne 18, 3) := by decide +kernel
theorem dX3_succeeds_230 : decode cX3_succeeds 230 = .ok (.aload_n 1, 1) := by decide +kernel
theorem dX3_succeeds_231 : decode cX3_succeeds 231 = .ok (.invokevirtual 35, 3) := by decide +kernel
theorem dX3_succeeds_234 : decode cX3_succeeds 234 = .ok (.iload_n 0, 1) := by decide +kernel
theorem dX3_succeeds_235 : decode cX3_succeeds 235 = .ok (.bipush 100, 2) := by decide +kernel
theorem dX3_succeeds_237 : decode cX3_succeeds 237 = .ok (.irem, 1) := by decide +kernel
theorem dX3_succeeds_238 : decode cX3_succeeds 238 = .ok (.if_icmp .gt 7, 3) := by decide +kernel
theorem dX3_succeeds_241 : decode cX3_succeeds 241 = .ok (.iconst 1, 1) := by decide +kernel
theorem dX3_succeeds_242 : decode cX3_succeeds 242 = .ok (.goto 4, 3) := by decide +kernel
theorem dX3_succeeds_245 : decode cX3_succeeds 245 = .ok (.iconst 0, 1) := by decide +kernel
theorem dX3_succeeds_246 : decode cX3_succeeds 246 = .ok (.ireturn, 1) := by decide +kernel
theorem dX3_succeeds_247 : decode cX3_succeeds 247 = .ok (.iload_n 3, 1) := by decide +kernel
theorem dX3_succeeds_248 : decode cX3_succeeds 248 = .ok (.ifCond .ne 22, 3) := by decide +kernel
theorem dX3_succeeds_251 : decode cX3_succeeds 251 = .ok (.iload 4, 2) := by decide +kernel
theorem dX3_succeeds_253 : decode cX3_succeeds 253 = .ok (.ifCond .ne 17, 3) := by decide +kernel
theorem dX3_succeeds_256 : decode cX3_succeeds 256 = .ok (.iload 5, 2) := by decide +kernel
theorem dX3_succeeds_258 : decode cX3_succeeds 258 = .ok (.aload_n 1, 1) := by decide +kernel
theorem dX3_succeeds_259 : decode cX3_succeeds 259 = .ok (.aload_n 2, 1) := by decide +kernel
theorem dX3_succeeds_260 : decode cX3_succeeds 260 = .ok (.invokestatic 39, 3) := by decide +kernel
theorem dX3_succeeds_263 : decode cX3_succeeds 263 = .ok (.ifCond .eq 7, 3) := by decide +kernel
theorem dX3_succeeds_266 : decode cX3_succeeds 266 = .ok (.iconst 1, 1) := by decide +kernel
theorem dX3_succeeds_267 : decode cX3_succeeds 267 = .ok (.goto 4, 3) := by decide +kernel
theorem dX3_succeeds_270 : decode cX3_succeeds 270 = .ok (.iconst 0, 1) := by decide +kernel
theorem dX3_succeeds_271 : decode cX3_succeeds 271 = .ok (.ireturn, 1) := by decide +kernel
theorem dX3_succeeds_272 : decode cX3_succeeds 272 = .ok (.iload 4, 2) := by decide +kernel
theorem dX3_succeeds_274 : decode cX3_succeeds 274 = .ok (.ifCond .ne 34, 3) := by decide +kernel
theorem dX3_succeeds_277 : decode cX3_succeeds 277 = .ok (.iload 5, 2) := by decide +kernel
theorem dX3_succeeds_279 : decode cX3_succeeds 279 = .ok (.iconst 2, 1) := by decide +kernel
theorem dX3_succeeds_280 : decode cX3_succeeds 280 = .ok (.if_icmp .gt 28, 3) := by decide +kernel
theorem dX3_succeeds_283 : decode cX3_succeeds 283 = .ok (.aload_n 1, 1) := by decide +kernel
theorem dX3_succeeds_284 : decode cX3_succeeds 284 = .ok (.iload_n 3, 1) := by decide +kernel
theorem dX3_succeeds_285 : decode cX3_succeeds 285 = .ok (.invokevirtual 45, 3) := by decide +kernel
theorem dX3_succeeds_288 : decode cX3_succeeds 288 = .ok (.ifCond .eq 20, 3) := by decide +kernel
theorem dX3_succeeds_291 : decode cX3_succeeds 291 = .ok (.aload_n 1, 1) := by decide +kernel
theorem dX3_succeeds_292 : decode cX3_succeeds 292 = .ok (.iload_n 3, 1) := by decide +kernel
theorem dX3_succeeds_293 : decode cX3_succeeds 293 = .ok (.invokevirtual 48, 3) := by decide +kernel
theorem dX3_succeeds_296 : decode cX3_succeeds 296 = .ok (.iload 5, 2) := by decide +kernel
theorem dX3_succeeds_298 : decode cX3_succeeds 298 = .ok (.invokestatic 17, 3) := by decide +kernel
theorem dX3_succeeds_301 : decode cX3_succeeds 301 = .ok (.if_icmp .ne 7, 3) := by decide +kernel
theorem dX3_succeeds_304 : decode cX3_succeeds 304 = .ok (.iconst 1, 1) := by decide +kernel
theorem dX3_succeeds_305 : decode cX3_succeeds 305 = .ok (.goto 4, 3) := by decide +kernel
theorem dX3_succeeds_308 : decode cX3_succeeds 308 = .ok (.iconst 0, 1) := by decide +kernel
theorem dX3_succeeds_309 : decode cX3_succeeds 309 = .ok (.ireturn, 1) := by decide +kernel
theorem dX3_succeeds_310 : decode cX3_succeeds 310 = .ok (.iload_n 3, 1) := by decide +kernel
theorem dX3_succeeds_311 : decode cX3_succeeds 311 = .ok (.bipush 10, 2) := by decide +kernel
theorem dX3_succeeds_313 : decode cX3_succeeds 313 = .ok (.idiv, 1) := by decide +kernel
theorem dX3_succeeds_314 : decode cX3_succeeds 314 = .ok (.invokestatic 51, 3) := by decide +kernel
theorem dX3_succeeds_317 : decode cX3_succeeds 317 = .ok (.ifCond .eq 36, 3) := by decide +kernel
theorem dX3_succeeds_320 : decode cX3_succeeds 320 = .ok (.iload_n 3, 1) := by decide +kernel
theorem dX3_succeeds_321 : decode cX3_succeeds 321 = .ok (.bipush 10, 2) := by decide +kernel
theorem dX3_succeeds_323 : decode cX3_succeeds 323 = .ok (.irem, 1) := by decide +kernel
theorem dX3_succeeds_324 : decode cX3_succeeds 324 = .ok (.invokestatic 54, 3) := by decide +kernel
theorem dX3_succeeds_327 : decode cX3_succeeds 327 = .ok (.ifCond .eq 26, 3) := by decide +kernel
theorem dX3_succeeds_330 : decode cX3_succeeds 330 = .ok (.aload_n 1, 1) := by decide +kernel
theorem dX3_succeeds_331 : decode cX3_succeeds 331 = .ok (.iload_n 3, 1) := by decide +kernel
theorem dX3_succeeds_332 : decode cX3_succeeds 332 = .ok (.bipush 10, 2) := by decide +kernel
theorem dX3_succeeds_334 : decode cX3_succeeds 334 = .ok (.idiv, 1) := by decide +kernel
theorem dX3_succeeds_335 : decode cX3_succeeds 335 = .ok (.iload_n 3, 1) := by decide +kernel
theorem dX3_succeeds_336 : decode cX3_succeeds 336 = .ok (.bipush 10, 2) := by decide +kernel
theorem dX3_succeeds_338 : decode cX3_succeeds 338 = .ok (.irem, 1) := by decide +kernel
theorem dX3_succeeds_339 : decode cX3_succeeds 339 = .ok (.invokevirtual 57, 3) := by decide +kernel
theorem dX3_succeeds_342 : decode cX3_succeeds 342 = .ok (.iload_n 0, 1) := by decide +kernel
theorem dX3_succeeds_343 : decode cX3_succeeds 343 = .ok (.bipush 100, 2) := by decide +kernel
theorem dX3_succeeds_345 : decode cX3_succeeds 345 = .ok (.irem, 1) := by decide +kernel
theorem dX3_succeeds_346 : decode cX3_succeeds 346 = .ok (.if_icmp .lt 7, 3) := by decide +kernel
theorem dX3_succeeds_349 : decode cX3_succeeds 349 = .ok (.iconst 1, 1) := by decide +kernel
theorem dX3_succeeds_350 : decode cX3_succeeds 350 = .ok (.goto 4, 3) := by decide +kernel
theorem dX3_succeeds_353 : decode cX3_succeeds 353 = .ok (.iconst 0, 1) := by decide +kernel
theorem dX3_succeeds_354 : decode cX3_succeeds 354 = .ok (.ireturn, 1) := by decide +kernel
theorem dX3_succeeds_355 : decode cX3_succeeds 355 = .ok (.iconst 0, 1) := by decide +kernel
theorem dX3_succeeds_356 : decode cX3_succeeds 356 = .ok (.ireturn, 1) := by decide +kernel
theorem dX3_isDividedWithin_0 : decode cX3_isDividedWithin 0 = .ok (.aload_n 2, 1) := by decide +kernel
theorem dX3_isDividedWithin_1 : decode cX3_isDividedWithin 1 = .ok (.aload_n 1, 1) := by decide +kernel
theorem dX3_isDividedWithin_2 : decode cX3_isDividedWithin 2 = .ok (.aload_n 1, 1) := by decide +kernel
theorem dX3_isDividedWithin_3 : decode cX3_isDividedWithin 3 = .ok (.getfield 61, 3) := by decide +kernel
theorem dX3_isDividedWithin_6 : decode cX3_isDividedWithin 6 = .ok (.invokevirtual 65, 3) := by decide +kernel
theorem dX3_isDividedWithin_9 : decode cX3_isDividedWithin 9 = .ok (.aload_n 2, 1) := by decide +kernel
theorem dX3_isDividedWithin_10 : decode cX3_isDividedWithin 10 = .ok (.iload_n 0, 1) := by decide +kernel
theorem dX3_isDividedWithin_11 : decode cX3_isDividedWithin 11 = .ok (.invokevirtual 71, 3) := by decide +kernel
theorem dX3_isDividedWithin_14 : decode cX3_isDividedWithin 14 = .ok (.iconst (-1), 1) := by decide +kernel
theorem dX3_isDividedWithin_15 : decode cX3_isDividedWithin 15 = .ok (.if_icmp .eq 7, 3) := by decide +kernel
theorem dX3_isDividedWithin_18 : decode cX3_isDividedWithin 18 = .ok (.iconst 1, 1) := by decide +kernel
theorem dX3_isDividedWithin_19 : decode cX3_isDividedWithin 19 = .ok (.goto 4, 3) := by decide +kernel
theorem dX3_isDividedWithin_22 : decode cX3_isDividedWithin 22 = .ok (.iconst 0, 1) := by decide +kernel
theorem dX3_isDividedWithin_23 : decode cX3_isDividedWithin 23 = .ok (.ireturn, 1) := by decide +kernel
theorem dX4_play_0 : decode cX4_play 0 = .ok (.aload_n 3, 1) := by decide +kernel
theorem dX4_play_1 : decode cX4_play 1 = .ok (.ifnonnull 4, 3) := by decide +kernel
theorem dX4_play_4 : decode cX4_play 4 = .ok (.return_, 1) := by decide +kernel
theorem dX4_play_5 : decode cX4_play 5 = .ok (.lload_n 0, 1) := by decide +kernel
theorem dX4_play_6 : decode cX4_play 6 = .ok (.lstore 4, 2) := by decide +kernel
theorem dX4_play_8 : decode cX4_play 8 = .ok (.iconst 0, 1) := by decide +kernel
theorem dX4_play_9 : decode cX4_play 9 = .ok (.istore 6, 2) := by decide +kernel
theorem dX4_play_11 : decode cX4_play 11 = .ok (.iload 6, 2) := by decide +kernel
theorem dX4_play_13 : decode cX4_play 13 = .ok (.iload_n 2, 1) := by decide +kernel
theorem dX4_play_14 : decode cX4_play 14 = .ok (.if_icmp .ge 31, 3) := by decide +kernel
theorem dX4_play_17 : decode cX4_play 17 = .ok (.lload 4, 2) := by decide +kernel
theorem dX4_play_19 : decode cX4_play 19 = .ok (.ldc2_w 7, 3) := by decide +kernel
theorem dX4_play_22 : decode cX4_play 22 = .ok (.lmul, 1) := by decide +kernel
theorem dX4_play_23 : decode cX4_play 23 = .ok (.ldc2_w 9, 3) := by decide +kernel
theorem dX4_play_26 : decode cX4_play 26 = .ok (.ladd, 1) := by decide +kernel
theorem dX4_play_27 : decode cX4_play 27 = .ok (.lstore 4, 2) := by decide +kernel
theorem dX4_play_29 : decode cX4_play 29 = .ok (.lload 4, 2) := by decide +kernel
theorem dX4_play_31 : decode cX4_play 31 = .ok (.bipush 33, 2) := by decide +kernel
theorem dX4_play_33 : decode cX4_play 33 = .ok (.lushr, 1) := by decide +kernel
theorem dX4_play_34 : decode cX4_play 34 = .ok (.l2i, 1) := by decide +kernel
theorem dX4_play_35 : decode cX4_play 35 = .ok (.aload_n 3, 1) := by decide +kernel
theorem dX4_play_36 : decode cX4_play 36 = .ok (.invokestatic 11, 3) := by decide +kernel
theorem dX4_play_39 : decode cX4_play 39 = .ok (.iinc 6 1, 3) := by decide +kernel
theorem dX4_play_42 : decode cX4_play 42 = .ok (.goto (-31), 3) := by decide +kernel
theorem dX4_play_45 : decode cX4_play 45 = .ok (.return_, 1) := by decide +kernel
theorem dX4_turn_0 : decode cX4_turn 0 = .ok (.iload_n 0, 1) := by decide +kernel
theorem dX4_turn_1 : decode cX4_turn 1 = .ok (.bipush 16, 2) := by decide +kernel
theorem dX4_turn_3 : decode cX4_turn 3 = .ok (.idiv, 1) := by decide +kernel
theorem dX4_turn_4 : decode cX4_turn 4 = .ok (.istore_n 2, 1) := by decide +kernel
theorem dX4_turn_5 : decode cX4_turn 5 = .ok (.iload_n 0, 1) := by decide +kernel
theorem dX4_turn_6 : decode cX4_turn 6 = .ok (.bipush 16, 2) := by decide +kernel
theorem dX4_turn_8 : decode cX4_turn 8 = .ok (.irem, 1) := by decide +kernel
theorem dX4_turn_9 : decode cX4_turn 9 = .ok (.istore_n 3, 1) := by decide +kernel
theorem dX4_turn_10 : decode cX4_turn 10 = .ok (.iload_n 3, 1) := by decide +kernel
theorem dX4_turn_11 : decode cX4_turn 11 = .ok (.iconst 3, 1) := by decide +kernel
theorem dX4_turn_12 : decode cX4_turn 12 = .ok (.if_icmp .gt 22, 3) := by decide +kernel
theorem dX4_turn_15 : decode cX4_turn 15 = .ok (.aload_n 1, 1) := by decide +kernel
theorem dX4_turn_16 : decode cX4_turn 16 = .ok (.iload_n 2, 1) := by decide +kernel
theorem dX4_turn_17 : decode cX4_turn 17 = .ok (.iconst 4, 1) := by decide +kernel
theorem dX4_turn_18 : decode cX4_turn 18 = .ok (.irem, 1) := by decide +kernel
theorem dX4_turn_19 : decode cX4_turn 19 = .ok (.iconst 1, 1) := by decide +kernel
theorem dX4_turn_20 : decode cX4_turn 20 = .ok (.iload_n 2, 1) := by decide +kernel
theorem dX4_turn_21 : decode cX4_turn 21 = .ok (.iconst 4, 1) := by decide +kernel
theorem dX4_turn_22 : decode cX4_turn 22 = .ok (.idiv, 1) := by decide +kernel
theorem dX4_turn_23 : decode cX4_turn 23 = .ok (.bipush 9, 2) := by decide +kernel
theorem dX4_turn_25 : decode cX4_turn 25 = .ok (.irem, 1) := by decide +kernel
theorem dX4_turn_26 : decode cX4_turn 26 = .ok (.iadd, 1) := by decide +kernel
theorem dX4_turn_27 : decode cX4_turn 27 = .ok (.invokevirtual 17, 3) := by decide +kernel
theorem dX4_turn_30 : decode cX4_turn 30 = .ok (.pop, 1) := by decide +kernel
theorem dX4_turn_31 : decode cX4_turn 31 = .ok (.goto 135, 3) := by decide +kernel
theorem dX4_turn_34 : decode cX4_turn 34 = .ok (.iload_n 3, 1) := by decide +kernel
theorem dX4_turn_35 : decode cX4_turn 35 = .ok (.bipush 7, 2) := by decide +kernel
theorem dX4_turn_37 : decode cX4_turn 37 = .ok (.if_icmp .gt 31, 3) := by decide +kernel
theorem dX4_turn_40 : decode cX4_turn 40 = .ok (.aload_n 1, 1) := by decide +kernel
theorem dX4_turn_41 : decode cX4_turn 41 = .ok (.iconst 1, 1) := by decide +kernel
theorem dX4_turn_42 : decode cX4_turn 42 = .ok (.iload_n 2, 1) := by decide +kernel
theorem dX4_turn_43 : decode cX4_turn 43 = .ok (.bipush 15, 2) := by decide +kernel
theorem dX4_turn_45 : decode cX4_turn 45 = .ok (.irem, 1) := by decide +kernel
theorem dX4_turn_46 : decode cX4_turn 46 = .ok (.iadd, 1) := by decide +kernel
theorem dX4_turn_47 : decode cX4_turn 47 = .ok (.iload_n 2, 1) := by decide +kernel
theorem dX4_turn_48 : decode cX4_turn 48 = .ok (.bipush 16, 2) := by decide +kernel
theorem dX4_turn_50 : decode cX4_turn 50 = .ok (.idiv, 1) := by decide +kernel
theorem dX4_turn_51 : decode cX4_turn 51 = .ok (.iconst 4, 1) := by decide +kernel
theorem dX4_turn_52 : decode cX4_turn 52 = .ok (.irem, 1) := by decide +kernel
theorem dX4_turn_53 : decode cX4_turn 53 = .ok (.ifCond .eq 7, 3) := by decide +kernel
theorem dX4_turn_56 : decode cX4_turn 56 = .ok (.iconst 1, 1) := by decide +kernel
theorem dX4_turn_57 : decode cX4_turn 57 = .ok (.goto 4, 3) := by decide +kernel
theorem dX4_turn_60 : decode cX4_turn 60 = .ok (.iconst 0, 1) := by decide +kernel
theorem dX4_turn_61 : decode cX4_turn 61 = .ok (.invokevirtual 23, 3) := by decide +kernel
theorem dX4_turn_64 : decode cX4_turn 64 = .ok (.pop, 1) := by decide +kernel
theorem dX4_turn_65 : decode cX4_turn 65 = .ok (.goto 101, 3) := by decide +kernel
theorem dX4_turn_68 : decode cX4_turn 68 = .ok (.iload_n 3, 1) := by decide +kernel
theorem dX4_turn_69 : decode cX4_turn 69 = .ok (.bipush 9, 2) := by decide +kernel
theorem dX4_turn_71 : decode cX4_turn 71 = .ok (.if_icmp .gt 23, 3) := by decide +kernel
theorem dX4_turn_74 : decode cX4_turn 74 = .ok (.aload_n 1, 1) := by decide +kernel
theorem dX4_turn_75 : decode cX4_turn 75 = .ok (.iload_n 2, 1) := by decide +kernel
theorem dX4_turn_76 : decode cX4_turn 76 = .ok (.bipush 16, 2) := by decide +kernel
theorem dX4_turn_78 : decode cX4_turn 78 = .ok (.irem, 1) := by decide +kernel
theorem dX4_turn_79 : decode cX4_turn 79 = .ok (.iload_n 2, 1) := by decide +kernel
theorem dX4_turn_80 : decode cX4_turn 80 = .ok (.bipush 16, 2) := by decide +kernel
theorem dX4_turn_82 : decode cX4_turn 82 = .ok (.idiv, 1) := by decide +kernel
theorem dX4_turn_83 : decode cX4_turn 83 = .ok (.iconst 3, 1) := by decide +kernel
theorem dX4_turn_84 : decode cX4_turn 84 = .ok (.irem, 1) := by decide +kernel
theorem dX4_turn_85 : decode cX4_turn 85 = .ok (.iconst 1, 1) := by decide +kernel
theorem dX4_turn_86 : decode cX4_turn 86 = .ok (.isub, 1) := by decide +kernel
theorem dX4_turn_87 : decode cX4_turn 87 = .ok (.invokevirtual 27, 3) := by decide +kernel
theorem dX4_turn_90 : decode cX4_turn 90 = .ok (.pop, 1) := by decide +kernel
theorem dX4_turn_91 : decode cX4_turn 91 = .ok (.goto 75, 3) := by decide +kernel
theorem dX4_turn_94 : decode cX4_turn 94 = .ok (.iload_n 3, 1) := by decide +kernel
theorem dX4_turn_95 : decode cX4_turn 95 = .ok (.bipush 12, 2) := by decide +kernel
theorem dX4_turn_97 : decode cX4_turn 97 = .ok (.if_icmp .gt 15, 3) := by decide +kernel
theorem dX4_turn_100 : decode cX4_turn 100 = .ok (.aload_n 1, 1) := by decide +kernel
theorem dX4_turn_101 : decode cX4_turn 101 = .ok (.iload_n 2, 1) := by decide +kernel
theorem dX4_turn_102 : decode cX4_turn 102 = .ok (.bipush 16, 2) := by decide +kernel
theorem dX4_turn_104 : decode cX4_turn 104 = .ok (.irem, 1) := by decide +kernel
theorem dX4_turn_105 : decode cX4_turn 105 = .ok (.invokevirtual 30, 3) := by decide +kernel
theorem dX4_turn_108 : decode cX4_turn 108 = .ok (.pop, 1) := by decide +kernel
theorem dX4_turn_109 : decode cX4_turn 109 = .ok (.goto 57, 3) := by decide +kernel
theorem dX4_turn_112 : decode cX4_turn 112 = .ok (.iload_n 3, 1) := by decide +kernel
theorem dX4_turn_113 : decode cX4_turn 113 = .ok (.bipush 13, 2) := by decide +kernel
theorem dX4_turn_115 : decode cX4_turn 115 = .ok (.if_icmp .ne 14, 3) := by decide +kernel
theorem dX4_turn_118 : decode cX4_turn 118 = .ok (.aload_n 1, 1) := by decide +kernel
theorem dX4_turn_119 : decode cX4_turn 119 = .ok (.iload_n 2, 1) := by decide +kernel
theorem dX4_turn_120 : decode cX4_turn 120 = .ok (.iconst 2, 1) := by decide +kernel
theorem dX4_turn_121 : decode cX4_turn 121 = .ok (.irem, 1) := by decide +kernel
theorem dX4_turn_122 : decode cX4_turn 122 = .ok (.invokevirtual 34, 3) := by decide +kernel
theorem dX4_turn_125 : decode cX4_turn 125 = .ok (.pop, 1) := by decide +kernel
theorem dX4_turn_126 : decode cX4_turn 126 = .ok (.goto 40, 3) := by decide +kernel
theorem dX4_turn_129 : decode cX4_turn 129 = .ok (.iload_n 3, 1) := by decide +kernel
theorem dX4_turn_130 : decode cX4_turn 130 = .ok (.bipush 14, 2) := by decide +kernel
theorem dX4_turn_132 : decode cX4_turn 132 = .ok (.if_icmp .ne 11, 3) := by decide +kernel
theorem dX4_turn_135 : decode cX4_turn 135 = .ok (.iload_n 2, 1) := by decide +kernel
theorem dX4_turn_136 : decode cX4_turn 136 = .ok (.aload_n 1, 1) := by decide +kernel
theorem dX4_turn_137 : decode cX4_turn 137 = .ok (.invokestatic 37, 3) := by decide +kernel
theorem dX4_turn_140 : decode cX4_turn 140 = .ok (.goto 26, 3) := by decide +kernel
theorem dX4_turn_143 : decode cX4_turn 143 = .ok (.iload_n 2, 1) := by decide +kernel
theorem dX4_turn_144 : decode cX4_turn 144 = .ok (.iconst 2, 1) := by decide +kernel
theorem dX4_turn_145 : decode cX4_turn 145 = .ok (.idiv, 1) := by decide +kernel
theorem dX4_turn_146 : decode cX4_turn 146 = .ok (.iconst 2, 1) := by decide +kernel
theorem dX4_turn_147 : decode cX4_turn 147 = .ok (.irem, 1) := by decide +kernel
theorem dX4_turn_148 : decode cX4_turn 148 = .ok (.ifCond .ne 14, 3) := by decide +kernel
theorem dX4_turn_151 : decode cX4_turn 151 = .ok (.aload_n 1, 1) := by decide +kernel
theorem dX4_turn_152 : decode cX4_turn 152 = .ok (.iload_n 2, 1) := by decide +kernel
theorem dX4_turn_153 : decode cX4_turn 153 = .ok (.iconst 2, 1) := by decide +kernel
theorem dX4_turn_154 : decode cX4_turn 154 = .ok (.irem, 1) := by decide +kernel
theorem dX4_turn_155 : decode cX4_turn 155 = .ok (.invokevirtual 40, 3) := by decide +kernel
theorem dX4_turn_158 : decode cX4_turn 158 = .ok (.pop, 1) := by decide +kernel
theorem dX4_turn_159 : decode cX4_turn 159 = .ok (.goto 7, 3) := by decide +kernel
theorem dX4_turn_162 : decode cX4_turn 162 = .ok (.aload_n 1, 1) := by decide +kernel
theorem dX4_turn_163 : decode cX4_turn 163 = .ok (.invokevirtual 43, 3) := by decide +kernel
theorem dX4_turn_166 : decode cX4_turn 166 = .ok (.return_, 1) := by decide +kernel
theorem dX4_moveJewels_0 : decode cX4_moveJewels 0 = .ok (.iload_n 0, 1) := by decide +kernel
theorem dX4_moveJewels_1 : decode cX4_moveJewels 1 = .ok (.bipush 16, 2) := by decide +kernel
theorem dX4_moveJewels_3 : decode cX4_moveJewels 3 = .ok (.idiv, 1) := by decide +kernel
theorem dX4_moveJewels_4 : decode cX4_moveJewels 4 = .ok (.iconst 4, 1) := by decide +kernel
theorem dX4_moveJewels_5 : decode cX4_moveJewels 5 = .ok (.irem, 1) := by decide +kernel
theorem dX4_moveJewels_6 : decode cX4_moveJewels 6 = .ok (.ifCond .ne 15, 3) := by decide +kernel
theorem dX4_moveJewels_9 : decode cX4_moveJewels 9 = .ok (.aload_n 1, 1) := by decide +kernel
theorem dX4_moveJewels_10 : decode cX4_moveJewels 10 = .ok (.iload_n 0, 1) := by decide +kernel
theorem dX4_moveJewels_11 : decode cX4_moveJewels 11 = .ok (.bipush 16, 2) := by decide +kernel
theorem dX4_moveJewels_13 : decode cX4_moveJewels 13 = .ok (.irem, 1) := by decide +kernel
theorem dX4_moveJewels_14 : decode cX4_moveJewels 14 = .ok (.invokevirtual 46, 3) := by decide +kernel
theorem dX4_moveJewels_17 : decode cX4_moveJewels 17 = .ok (.pop, 1) := by decide +kernel
theorem dX4_moveJewels_18 : decode cX4_moveJewels 18 = .ok (.goto 19, 3) := by decide +kernel
theorem dX4_moveJewels_21 : decode cX4_moveJewels 21 = .ok (.aload_n 1, 1) := by decide +kernel
theorem dX4_moveJewels_22 : decode cX4_moveJewels 22 = .ok (.iload_n 0, 1) := by decide +kernel
theorem dX4_moveJewels_23 : decode cX4_moveJewels 23 = .ok (.bipush 16, 2) := by decide +kernel
theorem dX4_moveJewels_25 : decode cX4_moveJewels 25 = .ok (.irem, 1) := by decide +kernel
theorem dX4_moveJewels_26 : decode cX4_moveJewels 26 = .ok (.iload_n 0, 1) := by decide +kernel
theorem dX4_moveJewels_27 : decode cX4_moveJewels 27 = .ok (.bipush 64, 2) := by decide +kernel
theorem dX4_moveJewels_29 : decode cX4_moveJewels 29 = .ok (.idiv, 1) := by decide +kernel
theorem dX4_moveJewels_30 : decode cX4_moveJewels 30 = .ok (.bipush 16, 2) := by decide +kernel
theorem dX4_moveJewels_32 : decode cX4_moveJewels 32 = .ok (.irem, 1) := by decide +kernel
theorem dX4_moveJewels_33 : decode cX4_moveJewels 33 = .ok (.invokevirtual 49, 3) := by decide +kernel
theorem dX4_moveJewels_36 : decode cX4_moveJewels 36 = .ok (.pop, 1) := by decide +kernel
theorem dX4_moveJewels_37 : decode cX4_moveJewels 37 = .ok (.return_, 1) := by decide +kernel
theorem dX5_init_0 : decode cX5_init 0 = .ok (.aload_n 0, 1) := by decide +kernel
theorem dX5_init_1 : decode cX5_init 1 = .ok (.invokespecial 1, 3) := by decide +kernel
theorem dX5_init_4 : decode cX5_init 4 = .ok (.aload_n 0, 1) := by decide +kernel
theorem dX5_init_5 : decode cX5_init 5 = .ok (.new 7, 3) := by decide +kernel
theorem dX5_init_8 : decode cX5_init 8 = .ok (.dup, 1) := by decide +kernel
theorem dX5_init_9 : decode cX5_init 9 = .ok (.invokespecial 9, 3) := by decide +kernel
theorem dX5_init_12 : decode cX5_init 12 = .ok (.putfield 10, 3) := by decide +kernel
theorem dX5_init_15 : decode cX5_init 15 = .ok (.return_, 1) := by decide +kernel
theorem dX6_init_0 : decode cX6_init 0 = .ok (.aload_n 0, 1) := by decide +kernel
theorem dX6_init_1 : decode cX6_init 1 = .ok (.invokespecial 3, 3) := by decide +kernel
theorem dX6_init_4 : decode cX6_init 4 = .ok (.aload_n 0, 1) := by decide +kernel
theorem dX6_init_5 : decode cX6_init 5 = .ok (.bipush 120, 2) := by decide +kernel
theorem dX6_init_7 : decode cX6_init 7 = .ok (.newarray .char, 2) := by decide +kernel
theorem dX6_init_9 : decode cX6_init 9 = .ok (.putfield 9, 3) := by decide +kernel
theorem dX6_init_12 : decode cX6_init 12 = .ok (.return_, 1) := by decide +kernel
theorem dX6_add_0 : decode cX6_add 0 = .ok (.aload_n 0, 1) := by decide +kernel
theorem dX6_add_1 : decode cX6_add 1 = .ok (.getfield 15, 3) := by decide +kernel
theorem dX6_add_4 : decode cX6_add 4 = .ok (.ifCond .lt 35, 3) := by decide +kernel
theorem dX6_add_7 : decode cX6_add 7 = .ok (.aload_n 0, 1) := by decide +kernel
theorem dX6_add_8 : decode cX6_add 8 = .ok (.getfield 15, 3) := by decide +kernel
theorem dX6_add_11 : decode cX6_add 11 = .ok (.aload_n 0, 1) := by decide +kernel
theorem dX6_add_12 : decode cX6_add 12 = .ok (.getfield 9, 3) := by decide +kernel
theorem dX6_add_15 : decode cX6_add 15 = .ok (.arraylength, 1) := by decide +kernel
theorem dX6_add_16 : decode cX6_add 16 = .ok (.if_icmp .ge 23, 3) := by decide +kernel
theorem dX6_add_19 : decode cX6_add 19 = .ok (.aload_n 0, 1) := by decide +kernel
theorem dX6_add_20 : decode cX6_add 20 = .ok (.getfield 9, 3) := by decide +kernel
theorem dX6_add_23 : decode cX6_add 23 = .ok (.aload_n 0, 1) := by decide +kernel
theorem dX6_add_24 : decode cX6_add 24 = .ok (.getfield 15, 3) := by decide +kernel
theorem dX6_add_27 : decode cX6_add 27 = .ok (.iload_n 1, 1) := by decide +kernel
theorem dX6_add_28 : decode cX6_add 28 = .ok (.castore, 1) := by decide +kernel
theorem dX6_add_29 : decode cX6_add 29 = .ok (.aload_n 0, 1) := by decide +kernel
theorem dX6_add_30 : decode cX6_add 30 = .ok (.dup, 1) := by decide +kernel
theorem dX6_add_31 : decode cX6_add 31 = .ok (.getfield 15, 3) := by decide +kernel
theorem dX6_add_34 : decode cX6_add 34 = .ok (.iconst 1, 1) := by decide +kernel
theorem dX6_add_35 : decode cX6_add 35 = .ok (.iadd, 1) := by decide +kernel
theorem dX6_add_36 : decode cX6_add 36 = .ok (.putfield 15, 3) := by decide +kernel
theorem dX6_add_39 : decode cX6_add 39 = .ok (.return_, 1) := by decide +kernel
theorem dX6_signAt_0 : decode cX6_signAt 0 = .ok (.iload_n 1, 1) := by decide +kernel
theorem dX6_signAt_1 : decode cX6_signAt 1 = .ok (.ifCond .lt 29, 3) := by decide +kernel
theorem dX6_signAt_4 : decode cX6_signAt 4 = .ok (.iload_n 1, 1) := by decide +kernel
theorem dX6_signAt_5 : decode cX6_signAt 5 = .ok (.aload_n 0, 1) := by decide +kernel
theorem dX6_signAt_6 : decode cX6_signAt 6 = .ok (.getfield 15, 3) := by decide +kernel
theorem dX6_signAt_9 : decode cX6_signAt 9 = .ok (.if_icmp .ge 21, 3) := by decide +kernel
theorem dX6_signAt_12 : decode cX6_signAt 12 = .ok (.iload_n 1, 1) := by decide +kernel
theorem dX6_signAt_13 : decode cX6_signAt 13 = .ok (.aload_n 0, 1) := by decide +kernel
theorem dX6_signAt_14 : decode cX6_signAt 14 = .ok (.getfield 9, 3) := by decide +kernel
theorem dX6_signAt_17 : decode cX6_signAt 17 = .ok (.arraylength, 1) := by decide +kernel
theorem dX6_signAt_18 : decode cX6_signAt 18 = .ok (.if_icmp .ge 12, 3) := by decide +kernel
theorem dX6_signAt_21 : decode cX6_signAt 21 = .ok (.aload_n 0, 1) := by decide +kernel
theorem dX6_signAt_22 : decode cX6_signAt 22 = .ok (.getfield 9, 3) := by decide +kernel
theorem dX6_signAt_25 : decode cX6_signAt 25 = .ok (.iload_n 1, 1) := by decide +kernel
theorem dX6_signAt_26 : decode cX6_signAt 26 = .ok (.caload, 1) := by decide +kernel
theorem dX6_signAt_27 : decode cX6_signAt 27 = .ok (.goto 4, 3) := by decide +kernel
theorem dX6_signAt_30 : decode cX6_signAt 30 = .ok (.iconst 0, 1) := by decide +kernel
theorem dX6_signAt_31 : decode cX6_signAt 31 = .ok (.ireturn, 1) := by decide +kernel
theorem dX6_digitAt_0 : decode cX6_digitAt 0 = .ok (.aload_n 0, 1) := by decide +kernel
theorem dX6_digitAt_1 : decode cX6_digitAt 1 = .ok (.iload_n 1, 1) := by decide +kernel
theorem dX6_digitAt_2 : decode cX6_digitAt 2 = .ok (.invokevirtual 19, 3) := by decide +kernel
theorem dX6_digitAt_5 : decode cX6_digitAt 5 = .ok (.bipush 48, 2) := by decide +kernel
theorem dX6_digitAt_7 : decode cX6_digitAt 7 = .ok (.isub, 1) := by decide +kernel
theorem dX6_digitAt_8 : decode cX6_digitAt 8 = .ok (.ireturn, 1) := by decide +kernel
theorem dX6_numberAt_0 : decode cX6_numberAt 0 = .ok (.bipush 10, 2) := by decide +kernel
theorem dX6_numberAt_2 : decode cX6_numberAt 2 = .ok (.aload_n 0, 1) := by decide +kernel
theorem dX6_numberAt_3 : decode cX6_numberAt 3 = .ok (.iload_n 1, 1) := by decide +kernel
theorem dX6_numberAt_4 : decode cX6_numberAt 4 = .ok (.invokevirtual 23, 3) := by decide +kernel
theorem dX6_numberAt_7 : decode cX6_numberAt 7 = .ok (.imul, 1) := by decide +kernel
theorem dX6_numberAt_8 : decode cX6_numberAt 8 = .ok (.aload_n 0, 1) := by decide +kernel
theorem dX6_numberAt_9 : decode cX6_numberAt 9 = .ok (.iload_n 1, 1) := by decide +kernel
theorem dX6_numberAt_10 : decode cX6_numberAt 10 = .ok (.iconst 1, 1) := by decide +kernel
theorem dX6_numberAt_11 : decode cX6_numberAt 11 = .ok (.iadd, 1) := by decide +kernel
theorem dX6_numberAt_12 : decode cX6_numberAt 12 = .ok (.invokevirtual 23, 3) := by decide +kernel
theorem dX6_numberAt_15 : decode cX6_numberAt 15 = .ok (.iadd, 1) := by decide +kernel
theorem dX6_numberAt_16 : decode cX6_numberAt 16 = .ok (.ireturn, 1) := by decide +kernel
theorem dX6_formOf_0 : decode cX6_formOf 0 = .ok (.iload_n 0, 1) := by decide +kernel
theorem dX6_formOf_1 : decode cX6_formOf 1 = .ok (.tableswitch 118 98 116 #[94, 97, 109, 118, 118, 103, 118, 118, 91, 118, 118, 100, 118, 118, 118, 118, 115, 112, 106], 91) := by decide +kernel
theorem dX6_formOf_92 : decode cX6_formOf 92 = .ok (.ldc 27, 2) := by decide +kernel
theorem dX6_formOf_94 : decode cX6_formOf 94 = .ok (.areturn, 1) := by decide +kernel
theorem dX6_formOf_95 : decode cX6_formOf 95 = .ok (.ldc 29, 2) := by decide +kernel
theorem dX6_formOf_97 : decode cX6_formOf 97 = .ok (.areturn, 1) := by decide +kernel
theorem dX6_formOf_98 : decode cX6_formOf 98 = .ok (.ldc 31, 2) := by decide +kernel
theorem dX6_formOf_100 : decode cX6_formOf 100 = .ok (.areturn, 1) := by decide +kernel
theorem dX6_formOf_101 : decode cX6_formOf 101 = .ok (.ldc 31, 2) := by decide +kernel
theorem dX6_formOf_103 : decode cX6_formOf 103 = .ok (.areturn, 1) := by decide +kernel
theorem dX6_formOf_104 : decode cX6_formOf 104 = .ok (.ldc 33, 2) := by decide +kernel
theorem dX6_formOf_106 : decode cX6_formOf 106 = .ok (.areturn, 1) := by decide +kernel
theorem dX6_formOf_107 : decode cX6_formOf 107 = .ok (.ldc 29, 2) := by decide +kernel
theorem dX6_formOf_109 : decode cX6_formOf 109 = .ok (.areturn, 1) := by decide +kernel
theorem dX6_formOf_110 : decode cX6_formOf 110 = .ok (.ldc 35, 2) := by decide +kernel
theorem dX6_formOf_112 : decode cX6_formOf 112 = .ok (.areturn, 1) := by decide +kernel
theorem dX6_formOf_113 : decode cX6_formOf 113 = .ok (.ldc 35, 2) := by decide +kernel
theorem dX6_formOf_115 : decode cX6_formOf 115 = .ok (.areturn, 1) := by decide +kernel
theorem dX6_formOf_116 : decode cX6_formOf 116 = .ok (.ldc 37, 2) := by decide +kernel
theorem dX6_formOf_118 : decode cX6_formOf 118 = .ok (.areturn, 1) := by decide +kernel
theorem dX6_formOf_119 : decode cX6_formOf 119 = .ok (.aconst_null, 1) := by decide +kernel
theorem dX6_formOf_120 : decode cX6_formOf 120 = .ok (.areturn, 1) := by decide +kernel
theorem dX6_fits_0 : decode cX6_fits 0 = .ok (.iload_n 0, 1) := by decide +kernel
theorem dX6_fits_1 : decode cX6_fits 1 = .ok (.tableswitch 194 107 119 #[67, 194, 194, 194, 176, 132, 194, 194, 194, 194, 103, 194, 85], 67) := by decide +kernel
theorem dX6_fits_68 : decode cX6_fits 68 = .ok (.iload_n 1, 1) := by decide +kernel
theorem dX6_fits_69 : decode cX6_fits 69 = .ok (.bipush 97, 2) := by decide +kernel
theorem dX6_fits_71 : decode cX6_fits 71 = .ok (.if_icmp .lt 13, 3) := by decide +kernel
theorem dX6_fits_74 : decode cX6_fits 74 = .ok (.iload_n 1, 1) := by decide +kernel
theorem dX6_fits_75 : decode cX6_fits 75 = .ok (.bipush 100, 2) := by decide +kernel
theorem dX6_fits_77 : decode cX6_fits 77 = .ok (.if_icmp .gt 7, 3) := by decide +kernel
theorem dX6_fits_80 : decode cX6_fits 80 = .ok (.iconst 1, 1) := by decide +kernel
theorem dX6_fits_81 : decode cX6_fits 81 = .ok (.goto 4, 3) := by decide +kernel
theorem dX6_fits_84 : decode cX6_fits 84 = .ok (.iconst 0, 1) := by decide +kernel
theorem dX6_fits_85 : decode cX6_fits 85 = .ok (.ireturn, 1) := by decide +kernel
theorem dX6_fits_86 : decode cX6_fits 86 = .ok (.iload_n 1, 1) := by decide +kernel
theorem dX6_fits_87 : decode cX6_fits 87 = .ok (.bipush 49, 2) := by decide +kernel
theorem dX6_fits_89 : decode cX6_fits 89 = .ok (.if_icmp .lt 13, 3) := by decide +kernel
theorem dX6_fits_92 : decode cX6_fits 92 = .ok (.iload_n 1, 1) := by decide +kernel
theorem dX6_fits_93 : decode cX6_fits 93 = .ok (.bipush 57, 2) := by decide +kernel
theorem dX6_fits_95 : decode cX6_fits 95 = .ok (.if_icmp .gt 7, 3) := by decide +kernel
theorem dX6_fits_98 : decode cX6_fits 98 = .ok (.iconst 1, 1) := by decide +kernel
theorem dX6_fits_99 : decode cX6_fits 99 = .ok (.goto 4, 3) := by decide +kernel
theorem dX6_fits_102 : decode cX6_fits 102 = .ok (.iconst 0, 1) := by decide +kernel
theorem dX6_fits_103 : decode cX6_fits 103 = .ok (.ireturn, 1) := by decide +kernel
theorem dX6_fits_104 : decode cX6_fits 104 = .ok (.iload_n 1, 1) := by decide +kernel
theorem dX6_fits_105 : decode cX6_fits 105 = .ok (.bipush 48, 2) := by decide +kernel
theorem dX6_fits_107 : decode cX6_fits 107 = .ok (.if_icmp .lt 24, 3) := by decide +kernel
theorem dX6_fits_110 : decode cX6_fits 110 = .ok (.iload_n 1, 1) := by decide +kernel
theorem dX6_fits_111 : decode cX6_fits 111 = .ok (.iload_n 2, 1) := by decide +kernel
theorem dX6_fits_112 : decode cX6_fits 112 = .ok (.bipush 49, 2) := by decide +kernel
theorem dX6_fits_114 : decode cX6_fits 114 = .ok (.if_icmp .ne 8, 3) := by decide +kernel
theorem dX6_fits_117 : decode cX6_fits 117 = .ok (.bipush 53, 2) := by decide +kernel
theorem dX6_fits_119 : decode cX6_fits 119 = .ok (.goto 5, 3) := by decide +kernel
theorem dX6_fits_122 : decode cX6_fits 122 = .ok (.bipush 57, 2) := by decide +kernel
theorem dX6_fits_124 : decode cX6_fits 124 = .ok (.if_icmp .gt 7, 3) := by decide +kernel
theorem dX6_fits_127 : decode cX6_fits 127 = .ok (.iconst 1, 1) := by decide +kernel
theorem dX6_fits_128 : decode cX6_fits 128 = .ok (.goto 4, 3) := by decide +kernel
theorem dX6_fits_131 : decode cX6_fits 131 = .ok (.iconst 0, 1) := by decide +kernel
theorem dX6_fits_132 : decode cX6_fits 132 = .ok (.ireturn, 1) := by decide +kernel
theorem dX6_fits_133 : decode cX6_fits 133 = .ok (.iload_n 2, 1) := by decide +kernel
theorem dX6_fits_134 : decode cX6_fits 134 = .ok (.bipush 49, 2) := by decide +kernel
theorem dX6_fits_136 : decode cX6_fits 136 = .ok (.if_icmp .ne 23, 3) := by decide +kernel
theorem dX6_fits_139 : decode cX6_fits 139 = .ok (.iload_n 1, 1) := by decide +kernel
theorem dX6_fits_140 : decode cX6_fits 140 = .ok (.bipush 48, 2) := by decide +kernel
theorem dX6_fits_142 : decode cX6_fits 142 = .ok (.if_icmp .lt 13, 3) := by decide +kernel
theorem dX6_fits_145 : decode cX6_fits 145 = .ok (.iload_n 1, 1) := by decide +kernel
theorem dX6_fits_146 : decode cX6_fits 146 = .ok (.bipush 53, 2) := by decide +kernel
theorem dX6_fits_148 : decode cX6_fits 148 = .ok (.if_icmp .gt 7, 3) := by decide +kernel
theorem dX6_fits_151 : decode cX6_fits 151 = .ok (.iconst 1, 1) := by decide +kernel
theorem dX6_fits_152 : decode cX6_fits 152 = .ok (.goto 24, 3) := by decide +kernel
theorem dX6_fits_155 : decode cX6_fits 155 = .ok (.iconst 0, 1) := by decide +kernel
theorem dX6_fits_156 : decode cX6_fits 156 = .ok (.goto 20, 3) := by decide +kernel
theorem dX6_fits_159 : decode cX6_fits 159 = .ok (.iload_n 1, 1) := by decide +kernel
theorem dX6_fits_160 : decode cX6_fits 160 = .ok (.bipush 49, 2) := by decide +kernel
theorem dX6_fits_162 : decode cX6_fits 162 = .ok (.if_icmp .lt 13, 3) := by decide +kernel
theorem dX6_fits_165 : decode cX6_fits 165 = .ok (.iload_n 1, 1) := by decide +kernel
theorem dX6_fits_166 : decode cX6_fits 166 = .ok (.bipush 57, 2) := by decide +kernel
theorem dX6_fits_168 : decode cX6_fits 168 = .ok (.if_icmp .gt 7, 3) := by decide +kernel
theorem dX6_fits_171 : decode cX6_fits 171 = .ok (.iconst 1, 1) := by decide +kernel
theorem dX6_fits_172 : decode cX6_fits 172 = .ok (.goto 4, 3) := by decide +kernel
theorem dX6_fits_175 : decode cX6_fits 175 = .ok (.iconst 0, 1) := by decide +kernel
theorem dX6_fits_176 : decode cX6_fits 176 = .ok (.ireturn, 1) := by decide +kernel
theorem dX6_fits_177 : decode cX6_fits 177 = .ok (.iload_n 1, 1) := by decide +kernel
theorem dX6_fits_178 : decode cX6_fits 178 = .ok (.bipush 48, 2) := by decide +kernel
theorem dX6_fits_180 : decode cX6_fits 180 = .ok (.if_icmp .lt 13, 3) := by decide +kernel
theorem dX6_fits_183 : decode cX6_fits 183 = .ok (.iload_n 1, 1) := by decide +kernel
theorem dX6_fits_184 : decode cX6_fits 184 = .ok (.bipush 50, 2) := by decide +kernel
theorem dX6_fits_186 : decode cX6_fits 186 = .ok (.if_icmp .gt 7, 3) := by decide +kernel
theorem dX6_fits_189 : decode cX6_fits 189 = .ok (.iconst 1, 1) := by decide +kernel
theorem dX6_fits_190 : decode cX6_fits 190 = .ok (.goto 4, 3) := by decide +kernel
theorem dX6_fits_193 : decode cX6_fits 193 = .ok (.iconst 0, 1) := by decide +kernel
theorem dX6_fits_194 : decode cX6_fits 194 = .ok (.ireturn, 1) := by decide +kernel
theorem dX6_fits_195 : decode cX6_fits 195 = .ok (.iload_n 1, 1) := by decide +kernel
theorem dX6_fits_196 : decode cX6_fits 196 = .ok (.bipush 48, 2) := by decide +kernel
theorem dX6_fits_198 : decode cX6_fits 198 = .ok (.if_icmp .eq 9, 3) := by decide +kernel
theorem dX6_fits_201 : decode cX6_fits 201 = .ok (.iload_n 1, 1) := by decide +kernel
theorem dX6_fits_202 : decode cX6_fits 202 = .ok (.bipush 49, 2) := by decide +kernel
theorem dX6_fits_204 : decode cX6_fits 204 = .ok (.if_icmp .ne 7, 3) := by decide +kernel
theorem dX6_fits_207 : decode cX6_fits 207 = .ok (.iconst 1, 1) := by decide +kernel
theorem dX6_fits_208 : decode cX6_fits 208 = .ok (.goto 4, 3) := by decide +kernel
theorem dX6_fits_211 : decode cX6_fits 211 = .ok (.iconst 0, 1) := by decide +kernel
theorem dX6_fits_212 : decode cX6_fits 212 = .ok (.ireturn, 1) := by decide +kernel
theorem dX6_firstError_0 : decode cX6_firstError 0 = .ok (.aload_n 0, 1) := by decide +kernel
theorem dX6_firstError_1 : decode cX6_firstError 1 = .ok (.iconst 0, 1) := by decide +kernel
theorem dX6_firstError_2 : decode cX6_firstError 2 = .ok (.invokevirtual 19, 3) := by decide +kernel
theorem dX6_firstError_5 : decode cX6_firstError 5 = .ok (.bipush 78, 2) := by decide +kernel
theorem dX6_firstError_7 : decode cX6_firstError 7 = .ok (.if_icmp .eq 5, 3) := by decide +kernel
theorem dX6_firstError_10 : decode cX6_firstError 10 = .ok (.iconst 0, 1) := by decide +kernel
theorem dX6_firstError_11 : decode cX6_firstError 11 = .ok (.ireturn, 1) := by decide +kernel
theorem dX6_firstError_12 : decode cX6_firstError 12 = .ok (.ldc 37, 2) := by decide +kernel
theorem dX6_firstError_14 : decode cX6_firstError 14 = .ok (.astore_n 1, 1) := by decide +kernel
theorem dX6_firstError_15 : decode cX6_firstError 15 = .ok (.iconst 0, 1) := by decide +kernel
theorem dX6_firstError_16 : decode cX6_firstError 16 = .ok (.istore_n 2, 1) := by decide +kernel
theorem dX6_firstError_17 : decode cX6_firstError 17 = .ok (.iconst 1, 1) := by decide +kernel
theorem dX6_firstError_18 : decode cX6_firstError 18 = .ok (.istore_n 3, 1) := by decide +kernel
theorem dX6_firstError_19 : decode cX6_firstError 19 = .ok (.iload_n 3, 1) := by decide +kernel
theorem dX6_firstError_20 : decode cX6_firstError 20 = .ok (.aload_n 0, 1) := by decide +kernel
theorem dX6_firstError_21 : decode cX6_firstError 21 = .ok (.getfield 15, 3) := by decide +kernel
theorem dX6_firstError_24 : decode cX6_firstError 24 = .ok (.if_icmp .ge 62, 3) := by decide +kernel
theorem dX6_firstError_27 : decode cX6_firstError 27 = .ok (.iload_n 2, 1) := by decide +kernel
theorem dX6_firstError_28 : decode cX6_firstError 28 = .ok (.aload_n 1, 1) := by decide +kernel
theorem dX6_firstError_29 : decode cX6_firstError 29 = .ok (.invokevirtual 39, 3) := by decide +kernel
theorem dX6_firstError_32 : decode cX6_firstError 32 = .ok (.if_icmp .lt 20, 3) := by decide +kernel
theorem dX6_firstError_35 : decode cX6_firstError 35 = .ok (.aload_n 0, 1) := by decide +kernel
theorem dX6_firstError_36 : decode cX6_firstError 36 = .ok (.iload_n 3, 1) := by decide +kernel
theorem dX6_firstError_37 : decode cX6_firstError 37 = .ok (.invokevirtual 19, 3) := by decide +kernel
theorem dX6_firstError_40 : decode cX6_firstError 40 = .ok (.invokestatic 44, 3) := by decide +kernel
theorem dX6_firstError_43 : decode cX6_firstError 43 = .ok (.astore_n 1, 1) := by decide +kernel
theorem dX6_firstError_44 : decode cX6_firstError 44 = .ok (.iconst 0, 1) := by decide +kernel
theorem dX6_firstError_45 : decode cX6_firstError 45 = .ok (.istore_n 2, 1) := by decide +kernel
theorem dX6_firstError_46 : decode cX6_firstError 46 = .ok (.aload_n 1, 1) := by decide +kernel
theorem dX6_firstError_47 : decode cX6_firstError 47 = .ok (.ifnonnull 33, 3) := by decide +kernel
theorem dX6_firstError_50 : decode cX6_firstError 50 = .ok (.iload_n 3, 1) := by decide +kernel
theorem dX6_firstError_51 : decode cX6_firstError 51 = .ok (.ireturn, 1) := by decide +kernel
theorem dX6_firstError_52 : decode cX6_firstError 52 = .ok (.aload_n 1, 1) := by decide +kernel
theorem dX6_firstError_53 : decode cX6_firstError 53 = .ok (.iload_n 2, 1) := by decide +kernel
theorem dX6_firstError_54 : decode cX6_firstError 54 = .ok (.invokevirtual 48, 3) := by decide +kernel
theorem dX6_firstError_57 : decode cX6_firstError 57 = .ok (.aload_n 0, 1) := by decide +kernel
theorem dX6_firstError_58 : decode cX6_firstError 58 = .ok (.iload_n 3, 1) := by decide +kernel
theorem dX6_firstError_59 : decode cX6_firstError 59 = .ok (.invokevirtual 19, 3) := by decide +kernel
theorem dX6_firstError_62 : decode cX6_firstError 62 = .ok (.aload_n 0, 1) := by decide +kernel
theorem dX6_firstError_63 : decode cX6_firstError 63 = .ok (.iload_n 3, 1) := by decide +kernel
theorem dX6_firstError_64 : decode cX6_firstError 64 = .ok (.iconst 1, 1) := by decide +kernel
theorem dX6_firstError_65 : decode cX6_firstError 65 = .ok (.isub, 1) := by decide +kernel
theorem dX6_firstError_66 : decode cX6_firstError 66 = .ok (.invokevirtual 19, 3) := by decide +kernel
theorem dX6_firstError_69 : decode cX6_firstError 69 = .ok (.invokestatic 51, 3) := by decide +kernel
theorem dX6_firstError_72 : decode cX6_firstError 72 = .ok (.ifCond .ne 5, 3) := by decide +kernel
theorem dX6_firstError_75 : decode cX6_firstError 75 = .ok (.iload_n 3, 1) := by decide +kernel
theorem dX6_firstError_76 : decode cX6_firstError 76 = .ok (.ireturn, 1) := by decide +kernel
theorem dX6_firstError_77 : decode cX6_firstError 77 = .ok (.iinc 2 1, 3) := by decide +kernel
theorem dX6_firstError_80 : decode cX6_firstError 80 = .ok (.iinc 3 1, 3) := by decide +kernel
theorem dX6_firstError_83 : decode cX6_firstError 83 = .ok (.goto (-64), 3) := by decide +kernel
theorem dX6_firstError_86 : decode cX6_firstError 86 = .ok (.iload_n 2, 1) := by decide +kernel
theorem dX6_firstError_87 : decode cX6_firstError 87 = .ok (.aload_n 1, 1) := by decide +kernel
theorem dX6_firstError_88 : decode cX6_firstError 88 = .ok (.invokevirtual 39, 3) := by decide +kernel
theorem dX6_firstError_91 : decode cX6_firstError 91 = .ok (.if_icmp .ge 10, 3) := by decide +kernel
theorem dX6_firstError_94 : decode cX6_firstError 94 = .ok (.aload_n 0, 1) := by decide +kernel
theorem dX6_firstError_95 : decode cX6_firstError 95 = .ok (.getfield 15, 3) := by decide +kernel
theorem dX6_firstError_98 : decode cX6_firstError 98 = .ok (.goto 4, 3) := by decide +kernel
theorem dX6_firstError_101 : decode cX6_firstError 101 = .ok (.iconst (-1), 1) := by decide +kernel
theorem dX6_firstError_102 : decode cX6_firstError 102 = .ok (.ireturn, 1) := by decide +kernel
theorem dX6_performOn_0 : decode cX6_performOn 0 = .ok (.iconst 0, 1) := by decide +kernel
theorem dX6_performOn_1 : decode cX6_performOn 1 = .ok (.istore_n 2, 1) := by decide +kernel
theorem dX6_performOn_2 : decode cX6_performOn 2 = .ok (.iconst 1, 1) := by decide +kernel
theorem dX6_performOn_3 : decode cX6_performOn 3 = .ok (.istore_n 3, 1) := by decide +kernel
theorem dX6_performOn_4 : decode cX6_performOn 4 = .ok (.iload_n 3, 1) := by decide +kernel
theorem dX6_performOn_5 : decode cX6_performOn 5 = .ok (.aload_n 0, 1) := by decide +kernel
theorem dX6_performOn_6 : decode cX6_performOn 6 = .ok (.getfield 15, 3) := by decide +kernel
theorem dX6_performOn_9 : decode cX6_performOn 9 = .ok (.if_icmp .ge 46, 3) := by decide +kernel
theorem dX6_performOn_12 : decode cX6_performOn 12 = .ok (.aload_n 0, 1) := by decide +kernel
theorem dX6_performOn_13 : decode cX6_performOn 13 = .ok (.iload_n 3, 1) := by decide +kernel
theorem dX6_performOn_14 : decode cX6_performOn 14 = .ok (.invokevirtual 19, 3) := by decide +kernel
theorem dX6_performOn_17 : decode cX6_performOn 17 = .ok (.invokestatic 44, 3) := by decide +kernel
theorem dX6_performOn_20 : decode cX6_performOn 20 = .ok (.astore 4, 2) := by decide +kernel
theorem dX6_performOn_22 : decode cX6_performOn 22 = .ok (.aload 4, 2) := by decide +kernel
theorem dX6_performOn_24 : decode cX6_performOn 24 = .ok (.ifnonnull 5, 3) := by decide +kernel
theorem dX6_performOn_27 : decode cX6_performOn 27 = .ok (.iload_n 2, 1) := by decide +kernel
theorem dX6_performOn_28 : decode cX6_performOn 28 = .ok (.ireturn, 1) := by decide +kernel
theorem dX6_performOn_29 : decode cX6_performOn 29 = .ok (.aload_n 0, 1) := by decide +kernel
theorem dX6_performOn_30 : decode cX6_performOn 30 = .ok (.iload_n 3, 1) := by decide +kernel
theorem dX6_performOn_31 : decode cX6_performOn 31 = .ok (.aload_n 1, 1) := by decide +kernel
theorem dX6_performOn_32 : decode cX6_performOn 32 = .ok (.invokevirtual 55, 3) := by decide +kernel
theorem dX6_performOn_35 : decode cX6_performOn 35 = .ok (.ifCond .ne 6, 3) := by decide +kernel
theorem dX6_performOn_38 : decode cX6_performOn 38 = .ok (.iinc 2 1, 3) := by decide +kernel
theorem dX6_performOn_41 : decode cX6_performOn 41 = .ok (.iload_n 3, 1) := by decide +kernel
theorem dX6_performOn_42 : decode cX6_performOn 42 = .ok (.aload 4, 2) := by decide +kernel
theorem dX6_performOn_44 : decode cX6_performOn 44 = .ok (.invokevirtual 39, 3) := by decide +kernel
theorem dX6_performOn_47 : decode cX6_performOn 47 = .ok (.iadd, 1) := by decide +kernel
theorem dX6_performOn_48 : decode cX6_performOn 48 = .ok (.istore_n 3, 1) := by decide +kernel
theorem dX6_performOn_49 : decode cX6_performOn 49 = .ok (.iinc 3 1, 3) := by decide +kernel
theorem dX6_performOn_52 : decode cX6_performOn 52 = .ok (.goto (-48), 3) := by decide +kernel
theorem dX6_performOn_55 : decode cX6_performOn 55 = .ok (.iload_n 2, 1) := by decide +kernel
theorem dX6_performOn_56 : decode cX6_performOn 56 = .ok (.ireturn, 1) := by decide +kernel
theorem dX6_performs_0 : decode cX6_performs 0 = .ok (.aload_n 2, 1) := by decide +kernel
theorem dX6_performs_1 : decode cX6_performs 1 = .ok (.ifnonnull 5, 3) := by decide +kernel
theorem dX6_performs_4 : decode cX6_performs 4 = .ok (.iconst 0, 1) := by decide +kernel
theorem dX6_performs_5 : decode cX6_performs 5 = .ok (.ireturn, 1) := by decide +kernel
theorem dX6_performs_6 : decode cX6_performs 6 = .ok (.aload_n 0, 1) := by decide +kernel
theorem dX6_performs_7 : decode cX6_performs 7 = .ok (.iload_n 1, 1) := by decide +kernel
theorem dX6_performs_8 : decode cX6_performs 8 = .ok (.invokevirtual 19, 3) := by decide +kernel
theorem dX6_performs_11 : decode cX6_performs 11 = .ok (.tableswitch 207 98 116 #[111, 123, 183, 207, 207, 149, 207, 207, 89, 207, 207, 136, 207, 207, 207, 207, 207, 195, 171], 89) := by decide +kernel
theorem dX6_performs_100 : decode cX6_performs 100 = .ok (.aload_n 2, 1) := by decide +kernel
theorem dX6_performs_101 : decode cX6_performs 101 = .ok (.aload_n 0, 1) := by decide +kernel
theorem dX6_performs_102 : decode cX6_performs 102 = .ok (.iload_n 1, 1) := by decide +kernel
theorem dX6_performs_103 : decode cX6_performs 103 = .ok (.iconst 1, 1) := by decide +kernel
theorem dX6_performs_104 : decode cX6_performs 104 = .ok (.iadd, 1) := by decide +kernel
theorem dX6_performs_105 : decode cX6_performs 105 = .ok (.invokevirtual 19, 3) := by decide +kernel
theorem dX6_performs_108 : decode cX6_performs 108 = .ok (.bipush 97, 2) := by decide +kernel
theorem dX6_performs_110 : decode cX6_performs 110 = .ok (.isub, 1) := by decide +kernel
theorem dX6_performs_111 : decode cX6_performs 111 = .ok (.aload_n 0, 1) := by decide +kernel
theorem dX6_performs_112 : decode cX6_performs 112 = .ok (.iload_n 1, 1) := by decide +kernel
theorem dX6_performs_113 : decode cX6_performs 113 = .ok (.iconst 2, 1) := by decide +kernel
theorem dX6_performs_114 : decode cX6_performs 114 = .ok (.iadd, 1) := by decide +kernel
theorem dX6_performs_115 : decode cX6_performs 115 = .ok (.invokevirtual 23, 3) := by decide +kernel
theorem dX6_performs_118 : decode cX6_performs 118 = .ok (.invokevirtual 59, 3) := by decide +kernel
theorem dX6_performs_121 : decode cX6_performs 121 = .ok (.ireturn, 1) := by decide +kernel
theorem dX6_performs_122 : decode cX6_performs 122 = .ok (.aload_n 2, 1) := by decide +kernel
theorem dX6_performs_123 : decode cX6_performs 123 = .ok (.aload_n 0, 1) := by decide +kernel
theorem dX6_performs_124 : decode cX6_performs 124 = .ok (.iload_n 1, 1) := by decide +kernel
theorem dX6_performs_125 : decode cX6_performs 125 = .ok (.iconst 1, 1) := by decide +kernel
theorem dX6_performs_126 : decode cX6_performs 126 = .ok (.iadd, 1) := by decide +kernel
theorem dX6_performs_127 : decode cX6_performs 127 = .ok (.invokevirtual 65, 3) := by decide +kernel
theorem dX6_performs_130 : decode cX6_performs 130 = .ok (.invokevirtual 68, 3) := by decide +kernel
theorem dX6_performs_133 : decode cX6_performs 133 = .ok (.ireturn, 1) := by decide +kernel
theorem dX6_performs_134 : decode cX6_performs 134 = .ok (.aload_n 2, 1) := by decide +kernel
theorem dX6_performs_135 : decode cX6_performs 135 = .ok (.aload_n 0, 1) := by decide +kernel
theorem dX6_performs_136 : decode cX6_performs 136 = .ok (.iload_n 1, 1) := by decide +kernel
theorem dX6_performs_137 : decode cX6_performs 137 = .ok (.iconst 1, 1) := by decide +kernel
theorem dX6_performs_138 : decode cX6_performs 138 = .ok (.iadd, 1) := by decide +kernel
theorem dX6_performs_139 : decode cX6_performs 139 = .ok (.invokevirtual 65, 3) := by decide +kernel
theorem dX6_performs_142 : decode cX6_performs 142 = .ok (.iconst 1, 1) := by decide +kernel
theorem dX6_performs_143 : decode cX6_performs 143 = .ok (.invokevirtual 72, 3) := by decide +kernel
theorem dX6_performs_146 : decode cX6_performs 146 = .ok (.ireturn, 1) := by decide +kernel
theorem dX6_performs_147 : decode cX6_performs 147 = .ok (.aload_n 2, 1) := by decide +kernel
theorem dX6_performs_148 : decode cX6_performs 148 = .ok (.aload_n 0, 1) := by decide +kernel
theorem dX6_performs_149 : decode cX6_performs 149 = .ok (.iload_n 1, 1) := by decide +kernel
theorem dX6_performs_150 : decode cX6_performs 150 = .ok (.iconst 1, 1) := by decide +kernel
theorem dX6_performs_151 : decode cX6_performs 151 = .ok (.iadd, 1) := by decide +kernel
theorem dX6_performs_152 : decode cX6_performs 152 = .ok (.invokevirtual 65, 3) := by decide +kernel
theorem dX6_performs_155 : decode cX6_performs 155 = .ok (.iconst 0, 1) := by decide +kernel
theorem dX6_performs_156 : decode cX6_performs 156 = .ok (.invokevirtual 72, 3) := by decide +kernel
theorem dX6_performs_159 : decode cX6_performs 159 = .ok (.ireturn, 1) := by decide +kernel
theorem dX6_performs_160 : decode cX6_performs 160 = .ok (.aload_n 2, 1) := by decide +kernel
theorem dX6_performs_161 : decode cX6_performs 161 = .ok (.aload_n 0, 1) := by decide +kernel
theorem dX6_performs_162 : decode cX6_performs 162 = .ok (.iload_n 1, 1) := by decide +kernel
theorem dX6_performs_163 : decode cX6_performs 163 = .ok (.iconst 1, 1) := by decide +kernel
theorem dX6_performs_164 : decode cX6_performs 164 = .ok (.iadd, 1) := by decide +kernel
theorem dX6_performs_165 : decode cX6_performs 165 = .ok (.invokevirtual 65, 3) := by decide +kernel
theorem dX6_performs_168 : decode cX6_performs 168 = .ok (.aload_n 0, 1) := by decide +kernel
theorem dX6_performs_169 : decode cX6_performs 169 = .ok (.iload_n 1, 1) := by decide +kernel
theorem dX6_performs_170 : decode cX6_performs 170 = .ok (.iconst 3, 1) := by decide +kernel
theorem dX6_performs_171 : decode cX6_performs 171 = .ok (.iadd, 1) := by decide +kernel
theorem dX6_performs_172 : decode cX6_performs 172 = .ok (.invokevirtual 23, 3) := by decide +kernel
theorem dX6_performs_175 : decode cX6_performs 175 = .ok (.invokestatic 76, 3) := by decide +kernel
theorem dX6_performs_178 : decode cX6_performs 178 = .ok (.invokevirtual 79, 3) := by decide +kernel
theorem dX6_performs_181 : decode cX6_performs 181 = .ok (.ireturn, 1) := by decide +kernel
theorem dX6_performs_182 : decode cX6_performs 182 = .ok (.aload_n 2, 1) := by decide +kernel
theorem dX6_performs_183 : decode cX6_performs 183 = .ok (.aload_n 0, 1) := by decide +kernel
theorem dX6_performs_184 : decode cX6_performs 184 = .ok (.iload_n 1, 1) := by decide +kernel
theorem dX6_performs_185 : decode cX6_performs 185 = .ok (.iconst 1, 1) := by decide +kernel
theorem dX6_performs_186 : decode cX6_performs 186 = .ok (.iadd, 1) := by decide +kernel
theorem dX6_performs_187 : decode cX6_performs 187 = .ok (.invokevirtual 65, 3) := by decide +kernel
theorem dX6_performs_190 : decode cX6_performs 190 = .ok (.invokevirtual 82, 3) := by decide +kernel
theorem dX6_performs_193 : decode cX6_performs 193 = .ok (.ireturn, 1) := by decide +kernel
theorem dX6_performs_194 : decode cX6_performs 194 = .ok (.aload_n 2, 1) := by decide +kernel
theorem dX6_performs_195 : decode cX6_performs 195 = .ok (.aload_n 0, 1) := by decide +kernel
theorem dX6_performs_196 : decode cX6_performs 196 = .ok (.iload_n 1, 1) := by decide +kernel
theorem dX6_performs_197 : decode cX6_performs 197 = .ok (.iconst 1, 1) := by decide +kernel
theorem dX6_performs_198 : decode cX6_performs 198 = .ok (.iadd, 1) := by decide +kernel
theorem dX6_performs_199 : decode cX6_performs 199 = .ok (.invokevirtual 23, 3) := by decide +kernel
theorem dX6_performs_202 : decode cX6_performs 202 = .ok (.invokevirtual 85, 3) := by decide +kernel
theorem dX6_performs_205 : decode cX6_performs 205 = .ok (.ireturn, 1) := by decide +kernel
theorem dX6_performs_206 : decode cX6_performs 206 = .ok (.aload_n 2, 1) := by decide +kernel
theorem dX6_performs_207 : decode cX6_performs 207 = .ok (.aload_n 0, 1) := by decide +kernel
theorem dX6_performs_208 : decode cX6_performs 208 = .ok (.iload_n 1, 1) := by decide +kernel
theorem dX6_performs_209 : decode cX6_performs 209 = .ok (.iconst 1, 1) := by decide +kernel
theorem dX6_performs_210 : decode cX6_performs 210 = .ok (.iadd, 1) := by decide +kernel
theorem dX6_performs_211 : decode cX6_performs 211 = .ok (.invokevirtual 23, 3) := by decide +kernel
theorem dX6_performs_214 : decode cX6_performs 214 = .ok (.invokevirtual 88, 3) := by decide +kernel
theorem dX6_performs_217 : decode cX6_performs 217 = .ok (.ireturn, 1) := by decide +kernel
theorem dX6_performs_218 : decode cX6_performs 218 = .ok (.aload_n 2, 1) := by decide +kernel
theorem dX6_performs_219 : decode cX6_performs 219 = .ok (.invokevirtual 91, 3) := by decide +kernel
theorem dX6_performs_222 : decode cX6_performs 222 = .ok (.iconst 1, 1) := by decide +kernel
theorem dX6_performs_223 : decode cX6_performs 223 = .ok (.ireturn, 1) := by decide +kernel
theorem dJ6_numberOfTrailingZeros_0f7a4_0 : decode cJ6_numberOfTrailingZeros_0f7a4 0 = .ok (.iload_n 0, 1) := by decide +kernel
theorem dJ6_numberOfTrailingZeros_0f7a4_1 : decode cJ6_numberOfTrailingZeros_0f7a4 1 = .ok (.iconst (-1), 1) := by decide +kernel
theorem dJ6_numberOfTrailingZeros_0f7a4_2 : decode cJ6_numberOfTrailingZeros_0f7a4 2 = .ok (.ixor, 1) := by decide +kernel
theorem dJ6_numberOfTrailingZeros_0f7a4_3 : decode cJ6_numberOfTrailingZeros_0f7a4 3 = .ok (.iload_n 0, 1) := by decide +kernel
theorem dJ6_numberOfTrailingZeros_0f7a4_4 : decode cJ6_numberOfTrailingZeros_0f7a4 4 = .ok (.iconst 1, 1) := by decide +kernel
theorem dJ6_numberOfTrailingZeros_0f7a4_5 : decode cJ6_numberOfTrailingZeros_0f7a4 5 = .ok (.isub, 1) := by decide +kernel
theorem dJ6_numberOfTrailingZeros_0f7a4_6 : decode cJ6_numberOfTrailingZeros_0f7a4 6 = .ok (.iand, 1) := by decide +kernel
theorem dJ6_numberOfTrailingZeros_0f7a4_7 : decode cJ6_numberOfTrailingZeros_0f7a4 7 = .ok (.istore_n 0, 1) := by decide +kernel
theorem dJ6_numberOfTrailingZeros_0f7a4_8 : decode cJ6_numberOfTrailingZeros_0f7a4 8 = .ok (.iload_n 0, 1) := by decide +kernel
theorem dJ6_numberOfTrailingZeros_0f7a4_9 : decode cJ6_numberOfTrailingZeros_0f7a4 9 = .ok (.ifCond .gt 8, 3) := by decide +kernel
theorem dJ6_numberOfTrailingZeros_0f7a4_12 : decode cJ6_numberOfTrailingZeros_0f7a4 12 = .ok (.iload_n 0, 1) := by decide +kernel
theorem dJ6_numberOfTrailingZeros_0f7a4_13 : decode cJ6_numberOfTrailingZeros_0f7a4 13 = .ok (.bipush 32, 2) := by decide +kernel
theorem dJ6_numberOfTrailingZeros_0f7a4_15 : decode cJ6_numberOfTrailingZeros_0f7a4 15 = .ok (.iand, 1) := by decide +kernel
theorem dJ6_numberOfTrailingZeros_0f7a4_16 : decode cJ6_numberOfTrailingZeros_0f7a4 16 = .ok (.ireturn, 1) := by decide +kernel
theorem dJ6_numberOfTrailingZeros_0f7a4_17 : decode cJ6_numberOfTrailingZeros_0f7a4 17 = .ok (.iconst 1, 1) := by decide +kernel
theorem dJ6_numberOfTrailingZeros_0f7a4_18 : decode cJ6_numberOfTrailingZeros_0f7a4 18 = .ok (.istore_n 1, 1) := by decide +kernel
theorem dJ6_numberOfTrailingZeros_0f7a4_19 : decode cJ6_numberOfTrailingZeros_0f7a4 19 = .ok (.iload_n 0, 1) := by decide +kernel
theorem dJ6_numberOfTrailingZeros_0f7a4_20 : decode cJ6_numberOfTrailingZeros_0f7a4 20 = .ok (.ldc_w 264, 3) := by decide +kernel
theorem dJ6_numberOfTrailingZeros_0f7a4_23 : decode cJ6_numberOfTrailingZeros_0f7a4 23 = .ok (.if_icmp .le 11, 3) := by decide +kernel
theorem dJ6_numberOfTrailingZeros_0f7a4_26 : decode cJ6_numberOfTrailingZeros_0f7a4 26 = .ok (.iinc 1 16, 3) := by decide +kernel
theorem dJ6_numberOfTrailingZeros_0f7a4_29 : decode cJ6_numberOfTrailingZeros_0f7a4 29 = .ok (.iload_n 0, 1) := by decide +kernel
theorem dJ6_numberOfTrailingZeros_0f7a4_30 : decode cJ6_numberOfTrailingZeros_0f7a4 30 = .ok (.bipush 16, 2) := by decide +kernel
theorem dJ6_numberOfTrailingZeros_0f7a4_32 : decode cJ6_numberOfTrailingZeros_0f7a4 32 = .ok (.iushr, 1) := by decide +kernel
theorem dJ6_numberOfTrailingZeros_0f7a4_33 : decode cJ6_numberOfTrailingZeros_0f7a4 33 = .ok (.istore_n 0, 1) := by decide +kernel
theorem dJ6_numberOfTrailingZeros_0f7a4_34 : decode cJ6_numberOfTrailingZeros_0f7a4 34 = .ok (.iload_n 0, 1) := by decide +kernel
theorem dJ6_numberOfTrailingZeros_0f7a4_35 : decode cJ6_numberOfTrailingZeros_0f7a4 35 = .ok (.sipush 256, 3) := by decide +kernel
theorem dJ6_numberOfTrailingZeros_0f7a4_38 : decode cJ6_numberOfTrailingZeros_0f7a4 38 = .ok (.if_icmp .le 11, 3) := by decide +kernel
theorem dJ6_numberOfTrailingZeros_0f7a4_41 : decode cJ6_numberOfTrailingZeros_0f7a4 41 = .ok (.iinc 1 8, 3) := by decide +kernel
theorem dJ6_numberOfTrailingZeros_0f7a4_44 : decode cJ6_numberOfTrailingZeros_0f7a4 44 = .ok (.iload_n 0, 1) := by decide +kernel
theorem dJ6_numberOfTrailingZeros_0f7a4_45 : decode cJ6_numberOfTrailingZeros_0f7a4 45 = .ok (.bipush 8, 2) := by decide +kernel
theorem dJ6_numberOfTrailingZeros_0f7a4_47 : decode cJ6_numberOfTrailingZeros_0f7a4 47 = .ok (.iushr, 1) := by decide +kernel
theorem dJ6_numberOfTrailingZeros_0f7a4_48 : decode cJ6_numberOfTrailingZeros_0f7a4 48 = .ok (.istore_n 0, 1) := by decide +kernel
theorem dJ6_numberOfTrailingZeros_0f7a4_49 : decode cJ6_numberOfTrailingZeros_0f7a4 49 = .ok (.iload_n 0, 1) := by decide +kernel
theorem dJ6_numberOfTrailingZeros_0f7a4_50 : decode cJ6_numberOfTrailingZeros_0f7a4 50 = .ok (.bipush 16, 2) := by decide +kernel
theorem dJ6_numberOfTrailingZeros_0f7a4_52 : decode cJ6_numberOfTrailingZeros_0f7a4 52 = .ok (.if_icmp .le 10, 3) := by decide +kernel
theorem dJ6_numberOfTrailingZeros_0f7a4_55 : decode cJ6_numberOfTrailingZeros_0f7a4 55 = .ok (.iinc 1 4, 3) := by decide +kernel
theorem dJ6_numberOfTrailingZeros_0f7a4_58 : decode cJ6_numberOfTrailingZeros_0f7a4 58 = .ok (.iload_n 0, 1) := by decide +kernel
theorem dJ6_numberOfTrailingZeros_0f7a4_59 : decode cJ6_numberOfTrailingZeros_0f7a4 59 = .ok (.iconst 4, 1) := by decide +kernel
theorem dJ6_numberOfTrailingZeros_0f7a4_60 : decode cJ6_numberOfTrailingZeros_0f7a4 60 = .ok (.iushr, 1) := by decide +kernel
theorem dJ6_numberOfTrailingZeros_0f7a4_61 : decode cJ6_numberOfTrailingZeros_0f7a4 61 = .ok (.istore_n 0, 1) := by decide +kernel
theorem dJ6_numberOfTrailingZeros_0f7a4_62 : decode cJ6_numberOfTrailingZeros_0f7a4 62 = .ok (.iload_n 0, 1) := by decide +kernel
theorem dJ6_numberOfTrailingZeros_0f7a4_63 : decode cJ6_numberOfTrailingZeros_0f7a4 63 = .ok (.iconst 4, 1) := by decide +kernel
theorem dJ6_numberOfTrailingZeros_0f7a4_64 : decode cJ6_numberOfTrailingZeros_0f7a4 64 = .ok (.if_icmp .le 10, 3) := by decide +kernel
theorem dJ6_numberOfTrailingZeros_0f7a4_67 : decode cJ6_numberOfTrailingZeros_0f7a4 67 = .ok (.iinc 1 2, 3) := by decide +kernel
theorem dJ6_numberOfTrailingZeros_0f7a4_70 : decode cJ6_numberOfTrailingZeros_0f7a4 70 = .ok (.iload_n 0, 1) := by decide +kernel
theorem dJ6_numberOfTrailingZeros_0f7a4_71 : decode cJ6_numberOfTrailingZeros_0f7a4 71 = .ok (.iconst 2, 1) := by decide +kernel
theorem dJ6_numberOfTrailingZeros_0f7a4_72 : decode cJ6_numberOfTrailingZeros_0f7a4 72 = .ok (.iushr, 1) := by decide +kernel
theorem dJ6_numberOfTrailingZeros_0f7a4_73 : decode cJ6_numberOfTrailingZeros_0f7a4 73 = .ok (.istore_n 0, 1) := by decide +kernel
theorem dJ6_numberOfTrailingZeros_0f7a4_74 : decode cJ6_numberOfTrailingZeros_0f7a4 74 = .ok (.iload_n 1, 1) := by decide +kernel
theorem dJ6_numberOfTrailingZeros_0f7a4_75 : decode cJ6_numberOfTrailingZeros_0f7a4 75 = .ok (.iload_n 0, 1) := by decide +kernel
theorem dJ6_numberOfTrailingZeros_0f7a4_76 : decode cJ6_numberOfTrailingZeros_0f7a4 76 = .ok (.iconst 1, 1) := by decide +kernel
theorem dJ6_numberOfTrailingZeros_0f7a4_77 : decode cJ6_numberOfTrailingZeros_0f7a4 77 = .ok (.iushr, 1) := by decide +kernel
theorem dJ6_numberOfTrailingZeros_0f7a4_78 : decode cJ6_numberOfTrailingZeros_0f7a4 78 = .ok (.iadd, 1) := by decide +kernel
theorem dJ6_numberOfTrailingZeros_0f7a4_79 : decode cJ6_numberOfTrailingZeros_0f7a4 79 = .ok (.ireturn, 1) := by decide +kernel
theorem dJ6_bitCount_0f7a4_0 : decode cJ6_bitCount_0f7a4 0 = .ok (.iload_n 0, 1) := by decide +kernel
theorem dJ6_bitCount_0f7a4_1 : decode cJ6_bitCount_0f7a4 1 = .ok (.iload_n 0, 1) := by decide +kernel
theorem dJ6_bitCount_0f7a4_2 : decode cJ6_bitCount_0f7a4 2 = .ok (.iconst 1, 1) := by decide +kernel
theorem dJ6_bitCount_0f7a4_3 : decode cJ6_bitCount_0f7a4 3 = .ok (.iushr, 1) := by decide +kernel
theorem dJ6_bitCount_0f7a4_4 : decode cJ6_bitCount_0f7a4 4 = .ok (.ldc_w 265, 3) := by decide +kernel
theorem dJ6_bitCount_0f7a4_7 : decode cJ6_bitCount_0f7a4 7 = .ok (.iand, 1) := by decide +kernel
theorem dJ6_bitCount_0f7a4_8 : decode cJ6_bitCount_0f7a4 8 = .ok (.isub, 1) := by decide +kernel
theorem dJ6_bitCount_0f7a4_9 : decode cJ6_bitCount_0f7a4 9 = .ok (.istore_n 0, 1) := by decide +kernel
theorem dJ6_bitCount_0f7a4_10 : decode cJ6_bitCount_0f7a4 10 = .ok (.iload_n 0, 1) := by decide +kernel
theorem dJ6_bitCount_0f7a4_11 : decode cJ6_bitCount_0f7a4 11 = .ok (.ldc_w 266, 3) := by decide +kernel
theorem dJ6_bitCount_0f7a4_14 : decode cJ6_bitCount_0f7a4 14 = .ok (.iand, 1) := by decide +kernel
theorem dJ6_bitCount_0f7a4_15 : decode cJ6_bitCount_0f7a4 15 = .ok (.iload_n 0, 1) := by decide +kernel
theorem dJ6_bitCount_0f7a4_16 : decode cJ6_bitCount_0f7a4 16 = .ok (.iconst 2, 1) := by decide +kernel
theorem dJ6_bitCount_0f7a4_17 : decode cJ6_bitCount_0f7a4 17 = .ok (.iushr, 1) := by decide +kernel
theorem dJ6_bitCount_0f7a4_18 : decode cJ6_bitCount_0f7a4 18 = .ok (.ldc_w 266, 3) := by decide +kernel
theorem dJ6_bitCount_0f7a4_21 : decode cJ6_bitCount_0f7a4 21 = .ok (.iand, 1) := by decide +kernel
theorem dJ6_bitCount_0f7a4_22 : decode cJ6_bitCount_0f7a4 22 = .ok (.iadd, 1) := by decide +kernel
theorem dJ6_bitCount_0f7a4_23 : decode cJ6_bitCount_0f7a4 23 = .ok (.istore_n 0, 1) := by decide +kernel
theorem dJ6_bitCount_0f7a4_24 : decode cJ6_bitCount_0f7a4 24 = .ok (.iload_n 0, 1) := by decide +kernel
theorem dJ6_bitCount_0f7a4_25 : decode cJ6_bitCount_0f7a4 25 = .ok (.iload_n 0, 1) := by decide +kernel
theorem dJ6_bitCount_0f7a4_26 : decode cJ6_bitCount_0f7a4 26 = .ok (.iconst 4, 1) := by decide +kernel
theorem dJ6_bitCount_0f7a4_27 : decode cJ6_bitCount_0f7a4 27 = .ok (.iushr, 1) := by decide +kernel
theorem dJ6_bitCount_0f7a4_28 : decode cJ6_bitCount_0f7a4 28 = .ok (.iadd, 1) := by decide +kernel
theorem dJ6_bitCount_0f7a4_29 : decode cJ6_bitCount_0f7a4 29 = .ok (.ldc_w 267, 3) := by decide +kernel
theorem dJ6_bitCount_0f7a4_32 : decode cJ6_bitCount_0f7a4 32 = .ok (.iand, 1) := by decide +kernel
theorem dJ6_bitCount_0f7a4_33 : decode cJ6_bitCount_0f7a4 33 = .ok (.istore_n 0, 1) := by decide +kernel
theorem dJ6_bitCount_0f7a4_34 : decode cJ6_bitCount_0f7a4 34 = .ok (.iload_n 0, 1) := by decide +kernel
theorem dJ6_bitCount_0f7a4_35 : decode cJ6_bitCount_0f7a4 35 = .ok (.iload_n 0, 1) := by decide +kernel
theorem dJ6_bitCount_0f7a4_36 : decode cJ6_bitCount_0f7a4 36 = .ok (.bipush 8, 2) := by decide +kernel
theorem dJ6_bitCount_0f7a4_38 : decode cJ6_bitCount_0f7a4 38 = .ok (.iushr, 1) := by decide +kernel
theorem dJ6_bitCount_0f7a4_39 : decode cJ6_bitCount_0f7a4 39 = .ok (.iadd, 1) := by decide +kernel
theorem dJ6_bitCount_0f7a4_40 : decode cJ6_bitCount_0f7a4 40 = .ok (.istore_n 0, 1) := by decide +kernel
theorem dJ6_bitCount_0f7a4_41 : decode cJ6_bitCount_0f7a4 41 = .ok (.iload_n 0, 1) := by decide +kernel
theorem dJ6_bitCount_0f7a4_42 : decode cJ6_bitCount_0f7a4 42 = .ok (.iload_n 0, 1) := by decide +kernel
theorem dJ6_bitCount_0f7a4_43 : decode cJ6_bitCount_0f7a4 43 = .ok (.bipush 16, 2) := by decide +kernel
theorem dJ6_bitCount_0f7a4_45 : decode cJ6_bitCount_0f7a4 45 = .ok (.iushr, 1) := by decide +kernel
theorem dJ6_bitCount_0f7a4_46 : decode cJ6_bitCount_0f7a4 46 = .ok (.iadd, 1) := by decide +kernel
theorem dJ6_bitCount_0f7a4_47 : decode cJ6_bitCount_0f7a4 47 = .ok (.istore_n 0, 1) := by decide +kernel
theorem dJ6_bitCount_0f7a4_48 : decode cJ6_bitCount_0f7a4 48 = .ok (.iload_n 0, 1) := by decide +kernel
theorem dJ6_bitCount_0f7a4_49 : decode cJ6_bitCount_0f7a4 49 = .ok (.bipush 63, 2) := by decide +kernel
theorem dJ6_bitCount_0f7a4_51 : decode cJ6_bitCount_0f7a4 51 = .ok (.iand, 1) := by decide +kernel
theorem dJ6_bitCount_0f7a4_52 : decode cJ6_bitCount_0f7a4 52 = .ok (.ireturn, 1) := by decide +kernel
theorem dJ9_abs_0f7a4_0 : decode cJ9_abs_0f7a4 0 = .ok (.iload_n 0, 1) := by decide +kernel
theorem dJ9_abs_0f7a4_1 : decode cJ9_abs_0f7a4 1 = .ok (.ifCond .ge 8, 3) := by decide +kernel
theorem dJ9_abs_0f7a4_4 : decode cJ9_abs_0f7a4 4 = .ok (.iload_n 0, 1) := by decide +kernel
theorem dJ9_abs_0f7a4_5 : decode cJ9_abs_0f7a4 5 = .ok (.ineg, 1) := by decide +kernel
theorem dJ9_abs_0f7a4_6 : decode cJ9_abs_0f7a4 6 = .ok (.goto 4, 3) := by decide +kernel
theorem dJ9_abs_0f7a4_9 : decode cJ9_abs_0f7a4 9 = .ok (.iload_n 0, 1) := by decide +kernel
theorem dJ9_abs_0f7a4_10 : decode cJ9_abs_0f7a4 10 = .ok (.ireturn, 1) := by decide +kernel
theorem dJ9_min_7cf53_0 : decode cJ9_min_7cf53 0 = .ok (.iload_n 0, 1) := by decide +kernel
theorem dJ9_min_7cf53_1 : decode cJ9_min_7cf53 1 = .ok (.iload_n 1, 1) := by decide +kernel
theorem dJ9_min_7cf53_2 : decode cJ9_min_7cf53 2 = .ok (.if_icmp .gt 7, 3) := by decide +kernel
theorem dJ9_min_7cf53_5 : decode cJ9_min_7cf53 5 = .ok (.iload_n 0, 1) := by decide +kernel
theorem dJ9_min_7cf53_6 : decode cJ9_min_7cf53 6 = .ok (.goto 4, 3) := by decide +kernel
theorem dJ9_min_7cf53_9 : decode cJ9_min_7cf53 9 = .ok (.iload_n 1, 1) := by decide +kernel
theorem dJ9_min_7cf53_10 : decode cJ9_min_7cf53 10 = .ok (.ireturn, 1) := by decide +kernel
theorem dJ0_length_8abf5_0 : decode cJ0_length_8abf5 0 = .ok (.aload_n 0, 1) := by decide +kernel
theorem dJ0_length_8abf5_1 : decode cJ0_length_8abf5 1 = .ok (.getfield 9, 3) := by decide +kernel
theorem dJ0_length_8abf5_4 : decode cJ0_length_8abf5 4 = .ok (.arraylength, 1) := by decide +kernel
theorem dJ0_length_8abf5_5 : decode cJ0_length_8abf5 5 = .ok (.aload_n 0, 1) := by decide +kernel
theorem dJ0_length_8abf5_6 : decode cJ0_length_8abf5 6 = .ok (.invokevirtual 335, 3) := by decide +kernel
theorem dJ0_length_8abf5_9 : decode cJ0_length_8abf5 9 = .ok (.ishr, 1) := by decide +kernel
theorem dJ0_length_8abf5_10 : decode cJ0_length_8abf5 10 = .ok (.ireturn, 1) := by decide +kernel
theorem dJ0_charAt_5068e_0 : decode cJ0_charAt_5068e 0 = .ok (.aload_n 0, 1) := by decide +kernel
theorem dJ0_charAt_5068e_1 : decode cJ0_charAt_5068e 1 = .ok (.invokevirtual 492, 3) := by decide +kernel
theorem dJ0_charAt_5068e_4 : decode cJ0_charAt_5068e 4 = .ok (.ifCond .eq 12, 3) := by decide +kernel
theorem dJ0_charAt_5068e_7 : decode cJ0_charAt_5068e 7 = .ok (.aload_n 0, 1) := by decide +kernel
theorem dJ0_charAt_5068e_8 : decode cJ0_charAt_5068e 8 = .ok (.getfield 9, 3) := by decide +kernel
theorem dJ0_charAt_5068e_11 : decode cJ0_charAt_5068e 11 = .ok (.iload_n 1, 1) := by decide +kernel
theorem dJ0_charAt_5068e_12 : decode cJ0_charAt_5068e 12 = .ok (.invokestatic 495, 3) := by decide +kernel
theorem dJ0_charAt_5068e_15 : decode cJ0_charAt_5068e 15 = .ok (.ireturn, 1) := by decide +kernel
theorem dJ0_charAt_5068e_16 : decode cJ0_charAt_5068e 16 = .ok (.aload_n 0, 1) := by decide +kernel
theorem dJ0_charAt_5068e_17 : decode cJ0_charAt_5068e 17 = .ok (.getfield 9, 3) := by decide +kernel
theorem dJ0_charAt_5068e_20 : decode cJ0_charAt_5068e 20 = .ok (.iload_n 1, 1) := by decide +kernel
theorem dJ0_charAt_5068e_21 : decode cJ0_charAt_5068e 21 = .ok (.invokestatic 498, 3) := by decide +kernel
theorem dJ0_charAt_5068e_24 : decode cJ0_charAt_5068e 24 = .ok (.ireturn, 1) := by decide +kernel
theorem dJ0_coder_7d493_0 : decode cJ0_coder_7d493 0 = .ok (.getstatic 38, 3) := by decide +kernel
theorem dJ0_coder_7d493_3 : decode cJ0_coder_7d493 3 = .ok (.ifCond .eq 10, 3) := by decide +kernel
theorem dJ0_coder_7d493_6 : decode cJ0_coder_7d493 6 = .ok (.aload_n 0, 1) := by decide +kernel
theorem dJ0_coder_7d493_7 : decode cJ0_coder_7d493 7 = .ok (.getfield 15, 3) := by decide +kernel
theorem dJ0_coder_7d493_10 : decode cJ0_coder_7d493 10 = .ok (.goto 4, 3) := by decide +kernel
theorem dJ0_coder_7d493_13 : decode cJ0_coder_7d493 13 = .ok (.iconst 1, 1) := by decide +kernel
theorem dJ0_coder_7d493_14 : decode cJ0_coder_7d493 14 = .ok (.ireturn, 1) := by decide +kernel
theorem dJ0_isLatin1_aae02_0 : decode cJ0_isLatin1_aae02 0 = .ok (.getstatic 38, 3) := by decide +kernel
theorem dJ0_isLatin1_aae02_3 : decode cJ0_isLatin1_aae02 3 = .ok (.ifCond .eq 14, 3) := by decide +kernel
theorem dJ0_isLatin1_aae02_6 : decode cJ0_isLatin1_aae02 6 = .ok (.aload_n 0, 1) := by decide +kernel
theorem dJ0_isLatin1_aae02_7 : decode cJ0_isLatin1_aae02 7 = .ok (.getfield 15, 3) := by decide +kernel
theorem dJ0_isLatin1_aae02_10 : decode cJ0_isLatin1_aae02 10 = .ok (.ifCond .ne 7, 3) := by decide +kernel
theorem dJ0_isLatin1_aae02_13 : decode cJ0_isLatin1_aae02 13 = .ok (.iconst 1, 1) := by decide +kernel
theorem dJ0_isLatin1_aae02_14 : decode cJ0_isLatin1_aae02 14 = .ok (.goto 4, 3) := by decide +kernel
theorem dJ0_isLatin1_aae02_17 : decode cJ0_isLatin1_aae02 17 = .ok (.iconst 0, 1) := by decide +kernel
theorem dJ0_isLatin1_aae02_18 : decode cJ0_isLatin1_aae02 18 = .ok (.ireturn, 1) := by decide +kernel
theorem dJ0_checkIndex_df160_0 : decode cJ0_checkIndex_df160 0 = .ok (.iload_n 0, 1) := by decide +kernel
theorem dJ0_checkIndex_df160_1 : decode cJ0_checkIndex_df160 1 = .ok (.iload_n 1, 1) := by decide +kernel
theorem dJ0_checkIndex_df160_2 : decode cJ0_checkIndex_df160 2 = .ok (.getstatic 1053, 3) := by decide +kernel
theorem dJ0_checkIndex_df160_5 : decode cJ0_checkIndex_df160 5 = .ok (.invokestatic 1059, 3) := by decide +kernel
theorem dJ0_checkIndex_df160_8 : decode cJ0_checkIndex_df160 8 = .ok (.pop, 1) := by decide +kernel
theorem dJ0_checkIndex_df160_9 : decode cJ0_checkIndex_df160 9 = .ok (.return_, 1) := by decide +kernel
theorem dJ1_charAt_3b067_0 : decode cJ1_charAt_3b067 0 = .ok (.iload_n 1, 1) := by decide +kernel
theorem dJ1_charAt_3b067_1 : decode cJ1_charAt_3b067 1 = .ok (.aload_n 0, 1) := by decide +kernel
theorem dJ1_charAt_3b067_2 : decode cJ1_charAt_3b067 2 = .ok (.arraylength, 1) := by decide +kernel
theorem dJ1_charAt_3b067_3 : decode cJ1_charAt_3b067 3 = .ok (.invokestatic 9, 3) := by decide +kernel
theorem dJ1_charAt_3b067_6 : decode cJ1_charAt_3b067 6 = .ok (.aload_n 0, 1) := by decide +kernel
theorem dJ1_charAt_3b067_7 : decode cJ1_charAt_3b067 7 = .ok (.iload_n 1, 1) := by decide +kernel
theorem dJ1_charAt_3b067_8 : decode cJ1_charAt_3b067 8 = .ok (.baload, 1) := by decide +kernel
theorem dJ1_charAt_3b067_9 : decode cJ1_charAt_3b067 9 = .ok (.sipush 255, 3) := by decide +kernel
theorem dJ1_charAt_3b067_12 : decode cJ1_charAt_3b067 12 = .ok (.iand, 1) := by decide +kernel
theorem dJ1_charAt_3b067_13 : decode cJ1_charAt_3b067 13 = .ok (.i2c, 1) := by decide +kernel
theorem dJ1_charAt_3b067_14 : decode cJ1_charAt_3b067 14 = .ok (.ireturn, 1) := by decide +kernel
theorem dJ2_getChar_3b067_0 : decode cJ2_getChar_3b067 0 = .ok (.getstatic 44, 3) := by decide +kernel
theorem dJ2_getChar_3b067_3 : decode cJ2_getChar_3b067 3 = .ok (.ifCond .ne 25, 3) := by decide +kernel
theorem dJ2_getChar_3b067_6 : decode cJ2_getChar_3b067 6 = .ok (.iload_n 1, 1) := by decide +kernel
theorem dJ2_getChar_3b067_7 : decode cJ2_getChar_3b067 7 = .ok (.ifCond .lt 11, 3) := by decide +kernel
theorem dJ2_getChar_3b067_10 : decode cJ2_getChar_3b067 10 = .ok (.iload_n 1, 1) := by decide +kernel
theorem dJ2_getChar_3b067_11 : decode cJ2_getChar_3b067 11 = .ok (.aload_n 0, 1) := by decide +kernel
theorem dJ2_getChar_3b067_12 : decode cJ2_getChar_3b067 12 = .ok (.invokestatic 48, 3) := by decide +kernel
theorem dJ2_getChar_3b067_15 : decode cJ2_getChar_3b067 15 = .ok (.if_icmp .lt 13, 3) := by decide +kernel
theorem dJ2_getChar_3b067_18 : decode cJ2_getChar_3b067 18 = .ok (.new 52, 3) := by decide +kernel
theorem dJ2_getChar_3b067_21 : decode cJ2_getChar_3b067 21 = .ok (.dup, 1) := by decide +kernel
theorem dJ2_getChar_3b067_22 : decode cJ2_getChar_3b067 22 = .ok (.ldc 54, 2) := by decide +kernel
theorem dJ2_getChar_3b067_24 : decode cJ2_getChar_3b067 24 = .ok (.invokespecial 56, 3) := by decide +kernel
theorem dJ2_getChar_3b067_27 : decode cJ2_getChar_3b067 27 = .ok (.athrow, 1) := by decide +kernel
theorem dJ2_getChar_3b067_28 : decode cJ2_getChar_3b067 28 = .ok (.iload_n 1, 1) := by decide +kernel
theorem dJ2_getChar_3b067_29 : decode cJ2_getChar_3b067 29 = .ok (.iconst 1, 1) := by decide +kernel
theorem dJ2_getChar_3b067_30 : decode cJ2_getChar_3b067 30 = .ok (.ishl, 1) := by decide +kernel
theorem dJ2_getChar_3b067_31 : decode cJ2_getChar_3b067 31 = .ok (.istore_n 1, 1) := by decide +kernel
theorem dJ2_getChar_3b067_32 : decode cJ2_getChar_3b067 32 = .ok (.aload_n 0, 1) := by decide +kernel
theorem dJ2_getChar_3b067_33 : decode cJ2_getChar_3b067 33 = .ok (.iload_n 1, 1) := by decide +kernel
theorem dJ2_getChar_3b067_34 : decode cJ2_getChar_3b067 34 = .ok (.iinc 1 1, 3) := by decide +kernel
theorem dJ2_getChar_3b067_37 : decode cJ2_getChar_3b067 37 = .ok (.baload, 1) := by decide +kernel
theorem dJ2_getChar_3b067_38 : decode cJ2_getChar_3b067 38 = .ok (.sipush 255, 3) := by decide +kernel
theorem dJ2_getChar_3b067_41 : decode cJ2_getChar_3b067 41 = .ok (.iand, 1) := by decide +kernel
theorem dJ2_getChar_3b067_42 : decode cJ2_getChar_3b067 42 = .ok (.getstatic 59, 3) := by decide +kernel
theorem dJ2_getChar_3b067_45 : decode cJ2_getChar_3b067 45 = .ok (.ishl, 1) := by decide +kernel
theorem dJ2_getChar_3b067_46 : decode cJ2_getChar_3b067 46 = .ok (.aload_n 0, 1) := by decide +kernel
theorem dJ2_getChar_3b067_47 : decode cJ2_getChar_3b067 47 = .ok (.iload_n 1, 1) := by decide +kernel
theorem dJ2_getChar_3b067_48 : decode cJ2_getChar_3b067 48 = .ok (.baload, 1) := by decide +kernel
theorem dJ2_getChar_3b067_49 : decode cJ2_getChar_3b067 49 = .ok (.sipush 255, 3) := by decide +kernel
theorem dJ2_getChar_3b067_52 : decode cJ2_getChar_3b067 52 = .ok (.iand, 1) := by decide +kernel
theorem dJ2_getChar_3b067_53 : decode cJ2_getChar_3b067 53 = .ok (.getstatic 63, 3) := by decide +kernel
theorem dJ2_getChar_3b067_56 : decode cJ2_getChar_3b067 56 = .ok (.ishl, 1) := by decide +kernel
theorem dJ2_getChar_3b067_57 : decode cJ2_getChar_3b067 57 = .ok (.ior, 1) := by decide +kernel
theorem dJ2_getChar_3b067_58 : decode cJ2_getChar_3b067 58 = .ok (.i2c, 1) := by decide +kernel
theorem dJ2_getChar_3b067_59 : decode cJ2_getChar_3b067 59 = .ok (.ireturn, 1) := by decide +kernel
theorem dJ2_length_9d52b_0 : decode cJ2_length_9d52b 0 = .ok (.aload_n 0, 1) := by decide +kernel
theorem dJ2_length_9d52b_1 : decode cJ2_length_9d52b 1 = .ok (.arraylength, 1) := by decide +kernel
theorem dJ2_length_9d52b_2 : decode cJ2_length_9d52b 2 = .ok (.iconst 1, 1) := by decide +kernel
theorem dJ2_length_9d52b_3 : decode cJ2_length_9d52b 3 = .ok (.ishr, 1) := by decide +kernel
theorem dJ2_length_9d52b_4 : decode cJ2_length_9d52b 4 = .ok (.ireturn, 1) := by decide +kernel
theorem dJ2_charAt_3b067_0 : decode cJ2_charAt_3b067 0 = .ok (.iload_n 1, 1) := by decide +kernel
theorem dJ2_charAt_3b067_1 : decode cJ2_charAt_3b067 1 = .ok (.aload_n 0, 1) := by decide +kernel
theorem dJ2_charAt_3b067_2 : decode cJ2_charAt_3b067 2 = .ok (.invokestatic 67, 3) := by decide +kernel
theorem dJ2_charAt_3b067_5 : decode cJ2_charAt_3b067 5 = .ok (.aload_n 0, 1) := by decide +kernel
theorem dJ2_charAt_3b067_6 : decode cJ2_charAt_3b067 6 = .ok (.iload_n 1, 1) := by decide +kernel
theorem dJ2_charAt_3b067_7 : decode cJ2_charAt_3b067 7 = .ok (.invokestatic 71, 3) := by decide +kernel
theorem dJ2_charAt_3b067_10 : decode cJ2_charAt_3b067 10 = .ok (.ireturn, 1) := by decide +kernel
theorem dJ2_checkIndex_2214a_0 : decode cJ2_checkIndex_2214a 0 = .ok (.iload_n 0, 1) := by decide +kernel
theorem dJ2_checkIndex_2214a_1 : decode cJ2_checkIndex_2214a 1 = .ok (.aload_n 1, 1) := by decide +kernel
theorem dJ2_checkIndex_2214a_2 : decode cJ2_checkIndex_2214a 2 = .ok (.invokestatic 48, 3) := by decide +kernel
theorem dJ2_checkIndex_2214a_5 : decode cJ2_checkIndex_2214a 5 = .ok (.invokestatic 414, 3) := by decide +kernel
theorem dJ2_checkIndex_2214a_8 : decode cJ2_checkIndex_2214a 8 = .ok (.return_, 1) := by decide +kernel
theorem dJ3_checkIndex_8e157_0 : decode cJ3_checkIndex_8e157 0 = .ok (.iload_n 0, 1) := by decide +kernel
theorem dJ3_checkIndex_8e157_1 : decode cJ3_checkIndex_8e157 1 = .ok (.ifCond .lt 8, 3) := by decide +kernel
theorem dJ3_checkIndex_8e157_4 : decode cJ3_checkIndex_8e157 4 = .ok (.iload_n 0, 1) := by decide +kernel
theorem dJ3_checkIndex_8e157_5 : decode cJ3_checkIndex_8e157 5 = .ok (.iload_n 1, 1) := by decide +kernel
theorem dJ3_checkIndex_8e157_6 : decode cJ3_checkIndex_8e157 6 = .ok (.if_icmp .lt 10, 3) := by decide +kernel
theorem dJ3_checkIndex_8e157_9 : decode cJ3_checkIndex_8e157 9 = .ok (.aload_n 2, 1) := by decide +kernel
theorem dJ3_checkIndex_8e157_10 : decode cJ3_checkIndex_8e157 10 = .ok (.iload_n 0, 1) := by decide +kernel
theorem dJ3_checkIndex_8e157_11 : decode cJ3_checkIndex_8e157 11 = .ok (.iload_n 1, 1) := by decide +kernel
theorem dJ3_checkIndex_8e157_12 : decode cJ3_checkIndex_8e157 12 = .ok (.invokestatic 95, 3) := by decide +kernel
theorem dJ3_checkIndex_8e157_15 : decode cJ3_checkIndex_8e157 15 = .ok (.athrow, 1) := by decide +kernel
theorem dJ3_checkIndex_8e157_16 : decode cJ3_checkIndex_8e157 16 = .ok (.iload_n 0, 1) := by decide +kernel
theorem dJ3_checkIndex_8e157_17 : decode cJ3_checkIndex_8e157 17 = .ok (.ireturn, 1) := by decide +kernel
