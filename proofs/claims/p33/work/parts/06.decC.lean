theorem dL_cuts_0 : decode cL_cuts 0 = .ok (.aload_n 0, 1) := by decide +kernel
theorem dL_cuts_1 : decode cL_cuts 1 = .ok (.iload_n 1, 1) := by decide +kernel
theorem dL_cuts_2 : decode cL_cuts 2 = .ok (.iload_n 2, 1) := by decide +kernel
theorem dL_cuts_3 : decode cL_cuts 3 = .ok (.invokevirtual 7, 3) := by decide +kernel
theorem dL_cuts_6 : decode cL_cuts 6 = .ok (.ireturn, 1) := by decide +kernel
theorem dL_cuts_7 : decode cL_cuts 7 = .ok (.astore_n 3, 1) := by decide +kernel
theorem dL_cuts_8 : decode cL_cuts 8 = .ok (.ldc 15, 2) := by decide +kernel
theorem dL_cuts_10 : decode cL_cuts 10 = .ok (.ireturn, 1) := by decide +kernel
theorem dL_doScript_0 : decode cL_doScript 0 = .ok (.aload_n 0, 1) := by decide +kernel
theorem dL_doScript_1 : decode cL_doScript 1 = .ok (.iload_n 1, 1) := by decide +kernel
theorem dL_doScript_2 : decode cL_doScript 2 = .ok (.lload_n 2, 1) := by decide +kernel
theorem dL_doScript_3 : decode cL_doScript 3 = .ok (.invokevirtual 16, 3) := by decide +kernel
theorem dL_doScript_6 : decode cL_doScript 6 = .ok (.ireturn, 1) := by decide +kernel
theorem dL_doScript_7 : decode cL_doScript 7 = .ok (.astore 4, 2) := by decide +kernel
theorem dL_doScript_9 : decode cL_doScript 9 = .ok (.ldc 22, 2) := by decide +kernel
theorem dL_doScript_11 : decode cL_doScript 11 = .ok (.ireturn, 1) := by decide +kernel
theorem dL_doSimulate_0 : decode cL_doSimulate 0 = .ok (.aload_n 0, 1) := by decide +kernel
theorem dL_doSimulate_1 : decode cL_doSimulate 1 = .ok (.lload_n 1, 1) := by decide +kernel
theorem dL_doSimulate_2 : decode cL_doSimulate 2 = .ok (.iload_n 3, 1) := by decide +kernel
theorem dL_doSimulate_3 : decode cL_doSimulate 3 = .ok (.invokevirtual 23, 3) := by decide +kernel
theorem dL_doSimulate_6 : decode cL_doSimulate 6 = .ok (.ireturn, 1) := by decide +kernel
theorem dL_doSimulate_7 : decode cL_doSimulate 7 = .ok (.astore 4, 2) := by decide +kernel
theorem dL_doSimulate_9 : decode cL_doSimulate 9 = .ok (.ldc 22, 2) := by decide +kernel
theorem dL_doSimulate_11 : decode cL_doSimulate 11 = .ok (.ireturn, 1) := by decide +kernel
theorem dL_tryAppend_0 : decode cL_tryAppend 0 = .ok (.aload_n 0, 1) := by decide +kernel
theorem dL_tryAppend_1 : decode cL_tryAppend 1 = .ok (.iload_n 1, 1) := by decide +kernel
theorem dL_tryAppend_2 : decode cL_tryAppend 2 = .ok (.invokevirtual 27, 3) := by decide +kernel
theorem dL_tryAppend_5 : decode cL_tryAppend 5 = .ok (.ireturn, 1) := by decide +kernel
theorem dL_tryAppend_6 : decode cL_tryAppend 6 = .ok (.astore_n 2, 1) := by decide +kernel
theorem dL_tryAppend_7 : decode cL_tryAppend 7 = .ok (.ldc 22, 2) := by decide +kernel
theorem dL_tryAppend_9 : decode cL_tryAppend 9 = .ok (.ireturn, 1) := by decide +kernel
theorem dL_tryAppend_10 : decode cL_tryAppend 10 = .ok (.astore_n 2, 1) := by decide +kernel
theorem dL_tryAppend_11 : decode cL_tryAppend 11 = .ok (.ldc 33, 2) := by decide +kernel
theorem dL_tryAppend_13 : decode cL_tryAppend 13 = .ok (.ireturn, 1) := by decide +kernel
theorem dL_tryLoad_0 : decode cL_tryLoad 0 = .ok (.aload_n 0, 1) := by decide +kernel
theorem dL_tryLoad_1 : decode cL_tryLoad 1 = .ok (.invokevirtual 34, 3) := by decide +kernel
theorem dL_tryLoad_4 : decode cL_tryLoad 4 = .ok (.ireturn, 1) := by decide +kernel
theorem dL_tryLoad_5 : decode cL_tryLoad 5 = .ok (.astore_n 1, 1) := by decide +kernel
theorem dL_tryLoad_6 : decode cL_tryLoad 6 = .ok (.ldc 33, 2) := by decide +kernel
theorem dL_tryLoad_8 : decode cL_tryLoad 8 = .ok (.ireturn, 1) := by decide +kernel
theorem dL_tryAbout_0 : decode cL_tryAbout 0 = .ok (.aload_n 0, 1) := by decide +kernel
theorem dL_tryAbout_1 : decode cL_tryAbout 1 = .ok (.iload_n 1, 1) := by decide +kernel
theorem dL_tryAbout_2 : decode cL_tryAbout 2 = .ok (.invokevirtual 38, 3) := by decide +kernel
theorem dL_tryAbout_5 : decode cL_tryAbout 5 = .ok (.ireturn, 1) := by decide +kernel
theorem dL_tryAbout_6 : decode cL_tryAbout 6 = .ok (.astore_n 2, 1) := by decide +kernel
theorem dL_tryAbout_7 : decode cL_tryAbout 7 = .ok (.ldc 22, 2) := by decide +kernel
theorem dL_tryAbout_9 : decode cL_tryAbout 9 = .ok (.ireturn, 1) := by decide +kernel
theorem dL_tryJewel_0 : decode cL_tryJewel 0 = .ok (.aload_n 0, 1) := by decide +kernel
theorem dL_tryJewel_1 : decode cL_tryJewel 1 = .ok (.iload_n 1, 1) := by decide +kernel
theorem dL_tryJewel_2 : decode cL_tryJewel 2 = .ok (.iload_n 2, 1) := by decide +kernel
theorem dL_tryJewel_3 : decode cL_tryJewel 3 = .ok (.invokevirtual 41, 3) := by decide +kernel
theorem dL_tryJewel_6 : decode cL_tryJewel 6 = .ok (.ireturn, 1) := by decide +kernel
theorem dL_tryJewel_7 : decode cL_tryJewel 7 = .ok (.astore_n 3, 1) := by decide +kernel
theorem dL_tryJewel_8 : decode cL_tryJewel 8 = .ok (.ldc 15, 2) := by decide +kernel
theorem dL_tryJewel_10 : decode cL_tryJewel 10 = .ok (.ireturn, 1) := by decide +kernel
theorem dL_tryJewel_11 : decode cL_tryJewel 11 = .ok (.astore_n 3, 1) := by decide +kernel
theorem dL_tryJewel_12 : decode cL_tryJewel 12 = .ok (.ldc 22, 2) := by decide +kernel
theorem dL_tryJewel_14 : decode cL_tryJewel 14 = .ok (.ireturn, 1) := by decide +kernel
theorem dL_tryPlace_0 : decode cL_tryPlace 0 = .ok (.aload_n 0, 1) := by decide +kernel
theorem dL_tryPlace_1 : decode cL_tryPlace 1 = .ok (.iload_n 1, 1) := by decide +kernel
theorem dL_tryPlace_2 : decode cL_tryPlace 2 = .ok (.iload_n 2, 1) := by decide +kernel
theorem dL_tryPlace_3 : decode cL_tryPlace 3 = .ok (.invokevirtual 45, 3) := by decide +kernel
theorem dL_tryPlace_6 : decode cL_tryPlace 6 = .ok (.ireturn, 1) := by decide +kernel
theorem dL_tryPlace_7 : decode cL_tryPlace 7 = .ok (.astore_n 3, 1) := by decide +kernel
theorem dL_tryPlace_8 : decode cL_tryPlace 8 = .ok (.ldc 15, 2) := by decide +kernel
theorem dL_tryPlace_10 : decode cL_tryPlace 10 = .ok (.ireturn, 1) := by decide +kernel
theorem dL_tryPlace_11 : decode cL_tryPlace 11 = .ok (.astore_n 3, 1) := by decide +kernel
theorem dL_tryPlace_12 : decode cL_tryPlace 12 = .ok (.ldc 22, 2) := by decide +kernel
theorem dL_tryPlace_14 : decode cL_tryPlace 14 = .ok (.ireturn, 1) := by decide +kernel
theorem dL_tryRun_0 : decode cL_tryRun 0 = .ok (.aload_n 0, 1) := by decide +kernel
theorem dL_tryRun_1 : decode cL_tryRun 1 = .ok (.iload_n 1, 1) := by decide +kernel
theorem dL_tryRun_2 : decode cL_tryRun 2 = .ok (.iload_n 2, 1) := by decide +kernel
theorem dL_tryRun_3 : decode cL_tryRun 3 = .ok (.invokevirtual 48, 3) := by decide +kernel
theorem dL_tryRun_6 : decode cL_tryRun 6 = .ok (.ireturn, 1) := by decide +kernel
theorem dL_tryRun_7 : decode cL_tryRun 7 = .ok (.astore_n 3, 1) := by decide +kernel
theorem dL_tryRun_8 : decode cL_tryRun 8 = .ok (.ldc 15, 2) := by decide +kernel
theorem dL_tryRun_10 : decode cL_tryRun 10 = .ok (.ireturn, 1) := by decide +kernel
theorem dL_tryRun_11 : decode cL_tryRun 11 = .ok (.astore_n 3, 1) := by decide +kernel
theorem dL_tryRun_12 : decode cL_tryRun 12 = .ok (.ldc 22, 2) := by decide +kernel
theorem dL_tryRun_14 : decode cL_tryRun 14 = .ok (.ireturn, 1) := by decide +kernel
theorem dL_tryHas_0 : decode cL_tryHas 0 = .ok (.aload_n 0, 1) := by decide +kernel
theorem dL_tryHas_1 : decode cL_tryHas 1 = .ok (.iload_n 1, 1) := by decide +kernel
theorem dL_tryHas_2 : decode cL_tryHas 2 = .ok (.iload_n 2, 1) := by decide +kernel
theorem dL_tryHas_3 : decode cL_tryHas 3 = .ok (.invokevirtual 51, 3) := by decide +kernel
theorem dL_tryHas_6 : decode cL_tryHas 6 = .ok (.ireturn, 1) := by decide +kernel
theorem dL_tryHas_7 : decode cL_tryHas 7 = .ok (.astore_n 3, 1) := by decide +kernel
theorem dL_tryHas_8 : decode cL_tryHas 8 = .ok (.ldc 15, 2) := by decide +kernel
theorem dL_tryHas_10 : decode cL_tryHas 10 = .ok (.ireturn, 1) := by decide +kernel
theorem dL_tryCome_0 : decode cL_tryCome 0 = .ok (.aload_n 0, 1) := by decide +kernel
theorem dL_tryCome_1 : decode cL_tryCome 1 = .ok (.iload_n 1, 1) := by decide +kernel
theorem dL_tryCome_2 : decode cL_tryCome 2 = .ok (.iload_n 2, 1) := by decide +kernel
theorem dL_tryCome_3 : decode cL_tryCome 3 = .ok (.invokevirtual 54, 3) := by decide +kernel
theorem dL_tryCome_6 : decode cL_tryCome 6 = .ok (.ireturn, 1) := by decide +kernel
theorem dL_tryCome_7 : decode cL_tryCome 7 = .ok (.astore_n 3, 1) := by decide +kernel
theorem dL_tryCome_8 : decode cL_tryCome 8 = .ok (.ldc 15, 2) := by decide +kernel
theorem dL_tryCome_10 : decode cL_tryCome 10 = .ok (.ireturn, 1) := by decide +kernel
theorem dL_tryCome_11 : decode cL_tryCome 11 = .ok (.astore_n 3, 1) := by decide +kernel
theorem dL_tryCome_12 : decode cL_tryCome 12 = .ok (.ldc 22, 2) := by decide +kernel
theorem dL_tryCome_14 : decode cL_tryCome 14 = .ok (.ireturn, 1) := by decide +kernel
theorem dL_tryCome_15 : decode cL_tryCome 15 = .ok (.astore_n 3, 1) := by decide +kernel
theorem dL_tryCome_16 : decode cL_tryCome 16 = .ok (.ldc 33, 2) := by decide +kernel
theorem dL_tryCome_18 : decode cL_tryCome 18 = .ok (.ireturn, 1) := by decide +kernel
theorem dL_tryChange_0 : decode cL_tryChange 0 = .ok (.aload_n 0, 1) := by decide +kernel
theorem dL_tryChange_1 : decode cL_tryChange 1 = .ok (.iload_n 1, 1) := by decide +kernel
theorem dL_tryChange_2 : decode cL_tryChange 2 = .ok (.iload_n 2, 1) := by decide +kernel
theorem dL_tryChange_3 : decode cL_tryChange 3 = .ok (.invokevirtual 57, 3) := by decide +kernel
theorem dL_tryChange_6 : decode cL_tryChange 6 = .ok (.ireturn, 1) := by decide +kernel
theorem dL_tryChange_7 : decode cL_tryChange 7 = .ok (.astore_n 3, 1) := by decide +kernel
theorem dL_tryChange_8 : decode cL_tryChange 8 = .ok (.ldc 15, 2) := by decide +kernel
theorem dL_tryChange_10 : decode cL_tryChange 10 = .ok (.ireturn, 1) := by decide +kernel
theorem dL_tryBreak_0 : decode cL_tryBreak 0 = .ok (.aload_n 0, 1) := by decide +kernel
theorem dL_tryBreak_1 : decode cL_tryBreak 1 = .ok (.iload_n 1, 1) := by decide +kernel
theorem dL_tryBreak_2 : decode cL_tryBreak 2 = .ok (.invokevirtual 60, 3) := by decide +kernel
theorem dL_tryBreak_5 : decode cL_tryBreak 5 = .ok (.ireturn, 1) := by decide +kernel
theorem dL_tryBreak_6 : decode cL_tryBreak 6 = .ok (.astore_n 2, 1) := by decide +kernel
theorem dL_tryBreak_7 : decode cL_tryBreak 7 = .ok (.ldc 15, 2) := by decide +kernel
theorem dL_tryBreak_9 : decode cL_tryBreak 9 = .ok (.ireturn, 1) := by decide +kernel
theorem dL_tryGive_0 : decode cL_tryGive 0 = .ok (.aload_n 0, 1) := by decide +kernel
theorem dL_tryGive_1 : decode cL_tryGive 1 = .ok (.iload_n 1, 1) := by decide +kernel
theorem dL_tryGive_2 : decode cL_tryGive 2 = .ok (.iload_n 2, 1) := by decide +kernel
theorem dL_tryGive_3 : decode cL_tryGive 3 = .ok (.invokevirtual 63, 3) := by decide +kernel
theorem dL_tryGive_6 : decode cL_tryGive 6 = .ok (.ireturn, 1) := by decide +kernel
theorem dL_tryGive_7 : decode cL_tryGive 7 = .ok (.astore_n 3, 1) := by decide +kernel
theorem dL_tryGive_8 : decode cL_tryGive 8 = .ok (.ldc 15, 2) := by decide +kernel
theorem dL_tryGive_10 : decode cL_tryGive 10 = .ok (.ireturn, 1) := by decide +kernel
theorem dL_tryGive_11 : decode cL_tryGive 11 = .ok (.astore_n 3, 1) := by decide +kernel
theorem dL_tryGive_12 : decode cL_tryGive 12 = .ok (.ldc 22, 2) := by decide +kernel
theorem dL_tryGive_14 : decode cL_tryGive 14 = .ok (.ireturn, 1) := by decide +kernel
theorem dL_tryTake_0 : decode cL_tryTake 0 = .ok (.aload_n 0, 1) := by decide +kernel
theorem dL_tryTake_1 : decode cL_tryTake 1 = .ok (.iload_n 1, 1) := by decide +kernel
theorem dL_tryTake_2 : decode cL_tryTake 2 = .ok (.invokevirtual 66, 3) := by decide +kernel
theorem dL_tryTake_5 : decode cL_tryTake 5 = .ok (.ireturn, 1) := by decide +kernel
theorem dL_tryTake_6 : decode cL_tryTake 6 = .ok (.astore_n 2, 1) := by decide +kernel
theorem dL_tryTake_7 : decode cL_tryTake 7 = .ok (.ldc 15, 2) := by decide +kernel
theorem dL_tryTake_9 : decode cL_tryTake 9 = .ok (.ireturn, 1) := by decide +kernel
theorem dL_tryDeal_0 : decode cL_tryDeal 0 = .ok (.aload_n 0, 1) := by decide +kernel
theorem dL_tryDeal_1 : decode cL_tryDeal 1 = .ok (.iload_n 1, 1) := by decide +kernel
theorem dL_tryDeal_2 : decode cL_tryDeal 2 = .ok (.invokevirtual 69, 3) := by decide +kernel
theorem dL_tryDeal_5 : decode cL_tryDeal 5 = .ok (.ireturn, 1) := by decide +kernel
theorem dL_tryDeal_6 : decode cL_tryDeal 6 = .ok (.astore_n 2, 1) := by decide +kernel
theorem dL_tryDeal_7 : decode cL_tryDeal 7 = .ok (.ldc 15, 2) := by decide +kernel
theorem dL_tryDeal_9 : decode cL_tryDeal 9 = .ok (.ireturn, 1) := by decide +kernel
theorem dL_tryDivide_0 : decode cL_tryDivide 0 = .ok (.aload_n 0, 1) := by decide +kernel
theorem dL_tryDivide_1 : decode cL_tryDivide 1 = .ok (.invokevirtual 72, 3) := by decide +kernel
theorem dL_tryDivide_4 : decode cL_tryDivide 4 = .ok (.ireturn, 1) := by decide +kernel
theorem dL_tryDivide_5 : decode cL_tryDivide 5 = .ok (.astore_n 1, 1) := by decide +kernel
theorem dL_tryDivide_6 : decode cL_tryDivide 6 = .ok (.ldc 33, 2) := by decide +kernel
theorem dL_tryDivide_8 : decode cL_tryDivide 8 = .ok (.ireturn, 1) := by decide +kernel
theorem dL_tryLay_0 : decode cL_tryLay 0 = .ok (.aload_n 0, 1) := by decide +kernel
theorem dL_tryLay_1 : decode cL_tryLay 1 = .ok (.iload_n 1, 1) := by decide +kernel
theorem dL_tryLay_2 : decode cL_tryLay 2 = .ok (.invokevirtual 75, 3) := by decide +kernel
theorem dL_tryLay_5 : decode cL_tryLay 5 = .ok (.ireturn, 1) := by decide +kernel
theorem dL_tryLay_6 : decode cL_tryLay 6 = .ok (.astore_n 2, 1) := by decide +kernel
theorem dL_tryLay_7 : decode cL_tryLay 7 = .ok (.ldc 22, 2) := by decide +kernel
theorem dL_tryLay_9 : decode cL_tryLay 9 = .ok (.ireturn, 1) := by decide +kernel
theorem dL_tryUndo_0 : decode cL_tryUndo 0 = .ok (.aload_n 0, 1) := by decide +kernel
theorem dL_tryUndo_1 : decode cL_tryUndo 1 = .ok (.invokevirtual 78, 3) := by decide +kernel
theorem dL_tryUndo_4 : decode cL_tryUndo 4 = .ok (.ireturn, 1) := by decide +kernel
theorem dL_tryUndo_5 : decode cL_tryUndo 5 = .ok (.astore_n 1, 1) := by decide +kernel
theorem dL_tryUndo_6 : decode cL_tryUndo 6 = .ok (.ldc 33, 2) := by decide +kernel
theorem dL_tryUndo_8 : decode cL_tryUndo 8 = .ok (.ireturn, 1) := by decide +kernel
theorem dL_tryFewest_0 : decode cL_tryFewest 0 = .ok (.aload_n 0, 1) := by decide +kernel
theorem dL_tryFewest_1 : decode cL_tryFewest 1 = .ok (.iload_n 1, 1) := by decide +kernel
theorem dL_tryFewest_2 : decode cL_tryFewest 2 = .ok (.invokevirtual 81, 3) := by decide +kernel
theorem dL_tryFewest_5 : decode cL_tryFewest 5 = .ok (.ireturn, 1) := by decide +kernel
theorem dL_tryFewest_6 : decode cL_tryFewest 6 = .ok (.astore_n 2, 1) := by decide +kernel
theorem dL_tryFewest_7 : decode cL_tryFewest 7 = .ok (.ldc 22, 2) := by decide +kernel
theorem dL_tryFewest_9 : decode cL_tryFewest 9 = .ok (.ireturn, 1) := by decide +kernel
theorem dL_tryDivided_0 : decode cL_tryDivided 0 = .ok (.aload_n 0, 1) := by decide +kernel
theorem dL_tryDivided_1 : decode cL_tryDivided 1 = .ok (.iload_n 1, 1) := by decide +kernel
theorem dL_tryDivided_2 : decode cL_tryDivided 2 = .ok (.invokevirtual 84, 3) := by decide +kernel
theorem dL_tryDivided_5 : decode cL_tryDivided 5 = .ok (.ireturn, 1) := by decide +kernel
theorem dL_tryDivided_6 : decode cL_tryDivided 6 = .ok (.astore_n 2, 1) := by decide +kernel
theorem dL_tryDivided_7 : decode cL_tryDivided 7 = .ok (.ldc 22, 2) := by decide +kernel
theorem dL_tryDivided_9 : decode cL_tryDivided 9 = .ok (.ireturn, 1) := by decide +kernel
theorem dL_tryLeast_0 : decode cL_tryLeast 0 = .ok (.aload_n 0, 1) := by decide +kernel
theorem dL_tryLeast_1 : decode cL_tryLeast 1 = .ok (.iload_n 1, 1) := by decide +kernel
theorem dL_tryLeast_2 : decode cL_tryLeast 2 = .ok (.invokevirtual 87, 3) := by decide +kernel
theorem dL_tryLeast_5 : decode cL_tryLeast 5 = .ok (.ireturn, 1) := by decide +kernel
theorem dL_tryLeast_6 : decode cL_tryLeast 6 = .ok (.astore_n 2, 1) := by decide +kernel
theorem dL_tryLeast_7 : decode cL_tryLeast 7 = .ok (.ldc 22, 2) := by decide +kernel
theorem dL_tryLeast_9 : decode cL_tryLeast 9 = .ok (.ireturn, 1) := by decide +kernel
theorem dL_tryIf_0 : decode cL_tryIf 0 = .ok (.aload_n 0, 1) := by decide +kernel
theorem dL_tryIf_1 : decode cL_tryIf 1 = .ok (.iload_n 1, 1) := by decide +kernel
theorem dL_tryIf_2 : decode cL_tryIf 2 = .ok (.iload_n 2, 1) := by decide +kernel
theorem dL_tryIf_3 : decode cL_tryIf 3 = .ok (.invokevirtual 90, 3) := by decide +kernel
theorem dL_tryIf_6 : decode cL_tryIf 6 = .ok (.ireturn, 1) := by decide +kernel
theorem dL_tryIf_7 : decode cL_tryIf 7 = .ok (.astore_n 3, 1) := by decide +kernel
theorem dL_tryIf_8 : decode cL_tryIf 8 = .ok (.ldc 15, 2) := by decide +kernel
theorem dL_tryIf_10 : decode cL_tryIf 10 = .ok (.ireturn, 1) := by decide +kernel
theorem dL_tryIf_11 : decode cL_tryIf 11 = .ok (.astore_n 3, 1) := by decide +kernel
theorem dL_tryIf_12 : decode cL_tryIf 12 = .ok (.ldc 22, 2) := by decide +kernel
theorem dL_tryIf_14 : decode cL_tryIf 14 = .ok (.ireturn, 1) := by decide +kernel
theorem dL_tryKeep_0 : decode cL_tryKeep 0 = .ok (.aload_n 0, 1) := by decide +kernel
theorem dL_tryKeep_1 : decode cL_tryKeep 1 = .ok (.iload_n 1, 1) := by decide +kernel
theorem dL_tryKeep_2 : decode cL_tryKeep 2 = .ok (.invokevirtual 93, 3) := by decide +kernel
theorem dL_tryKeep_5 : decode cL_tryKeep 5 = .ok (.ireturn, 1) := by decide +kernel
theorem dL_tryKeep_6 : decode cL_tryKeep 6 = .ok (.astore_n 2, 1) := by decide +kernel
theorem dL_tryKeep_7 : decode cL_tryKeep 7 = .ok (.ldc 15, 2) := by decide +kernel
theorem dL_tryKeep_9 : decode cL_tryKeep 9 = .ok (.ireturn, 1) := by decide +kernel
theorem dL_tryBack_0 : decode cL_tryBack 0 = .ok (.aload_n 0, 1) := by decide +kernel
theorem dL_tryBack_1 : decode cL_tryBack 1 = .ok (.iload_n 1, 1) := by decide +kernel
theorem dL_tryBack_2 : decode cL_tryBack 2 = .ok (.invokevirtual 96, 3) := by decide +kernel
theorem dL_tryBack_5 : decode cL_tryBack 5 = .ok (.ireturn, 1) := by decide +kernel
theorem dL_tryBack_6 : decode cL_tryBack 6 = .ok (.astore_n 2, 1) := by decide +kernel
theorem dL_tryBack_7 : decode cL_tryBack 7 = .ok (.ldc 15, 2) := by decide +kernel
theorem dL_tryBack_9 : decode cL_tryBack 9 = .ok (.ireturn, 1) := by decide +kernel
theorem dL_tryBack_10 : decode cL_tryBack 10 = .ok (.astore_n 2, 1) := by decide +kernel
theorem dL_tryBack_11 : decode cL_tryBack 11 = .ok (.ldc 33, 2) := by decide +kernel
theorem dL_tryBack_13 : decode cL_tryBack 13 = .ok (.ireturn, 1) := by decide +kernel
theorem dL_call_0 : decode cL_call 0 = .ok (.iload_n 1, 1) := by decide +kernel
theorem dL_call_1 : decode cL_call 1 = .ok (.tableswitch 230 0 20 #[99, 105, 110, 116, 123, 130, 137, 144, 151, 158, 164, 171, 177, 183, 188, 194, 199, 205, 211, 217, 224], 99) := by decide +kernel
theorem dL_call_100 : decode cL_call 100 = .ok (.aload_n 0, 1) := by decide +kernel
theorem dL_call_101 : decode cL_call 101 = .ok (.iload_n 2, 1) := by decide +kernel
theorem dL_call_102 : decode cL_call 102 = .ok (.invokestatic 99, 3) := by decide +kernel
theorem dL_call_105 : decode cL_call 105 = .ok (.ireturn, 1) := by decide +kernel
theorem dL_call_106 : decode cL_call 106 = .ok (.aload_n 0, 1) := by decide +kernel
theorem dL_call_107 : decode cL_call 107 = .ok (.invokestatic 105, 3) := by decide +kernel
theorem dL_call_110 : decode cL_call 110 = .ok (.ireturn, 1) := by decide +kernel
theorem dL_call_111 : decode cL_call 111 = .ok (.aload_n 0, 1) := by decide +kernel
theorem dL_call_112 : decode cL_call 112 = .ok (.iload_n 2, 1) := by decide +kernel
theorem dL_call_113 : decode cL_call 113 = .ok (.invokestatic 109, 3) := by decide +kernel
theorem dL_call_116 : decode cL_call 116 = .ok (.ireturn, 1) := by decide +kernel
theorem dL_call_117 : decode cL_call 117 = .ok (.aload_n 0, 1) := by decide +kernel
theorem dL_call_118 : decode cL_call 118 = .ok (.iload_n 2, 1) := by decide +kernel
theorem dL_call_119 : decode cL_call 119 = .ok (.iload_n 3, 1) := by decide +kernel
theorem dL_call_120 : decode cL_call 120 = .ok (.invokestatic 112, 3) := by decide +kernel
theorem dL_call_123 : decode cL_call 123 = .ok (.ireturn, 1) := by decide +kernel
theorem dL_call_124 : decode cL_call 124 = .ok (.aload_n 0, 1) := by decide +kernel
theorem dL_call_125 : decode cL_call 125 = .ok (.iload_n 2, 1) := by decide +kernel
theorem dL_call_126 : decode cL_call 126 = .ok (.iload_n 3, 1) := by decide +kernel
theorem dL_call_127 : decode cL_call 127 = .ok (.invokestatic 116, 3) := by decide +kernel
theorem dL_call_130 : decode cL_call 130 = .ok (.ireturn, 1) := by decide +kernel
theorem dL_call_131 : decode cL_call 131 = .ok (.aload_n 0, 1) := by decide +kernel
theorem dL_call_132 : decode cL_call 132 = .ok (.iload_n 2, 1) := by decide +kernel
theorem dL_call_133 : decode cL_call 133 = .ok (.iload_n 3, 1) := by decide +kernel
theorem dL_call_134 : decode cL_call 134 = .ok (.invokestatic 119, 3) := by decide +kernel
theorem dL_call_137 : decode cL_call 137 = .ok (.ireturn, 1) := by decide +kernel
theorem dL_call_138 : decode cL_call 138 = .ok (.aload_n 0, 1) := by decide +kernel
theorem dL_call_139 : decode cL_call 139 = .ok (.iload_n 2, 1) := by decide +kernel
theorem dL_call_140 : decode cL_call 140 = .ok (.iload_n 3, 1) := by decide +kernel
theorem dL_call_141 : decode cL_call 141 = .ok (.invokestatic 122, 3) := by decide +kernel
theorem dL_call_144 : decode cL_call 144 = .ok (.ireturn, 1) := by decide +kernel
theorem dL_call_145 : decode cL_call 145 = .ok (.aload_n 0, 1) := by decide +kernel
theorem dL_call_146 : decode cL_call 146 = .ok (.iload_n 2, 1) := by decide +kernel
theorem dL_call_147 : decode cL_call 147 = .ok (.iload_n 3, 1) := by decide +kernel
theorem dL_call_148 : decode cL_call 148 = .ok (.invokestatic 125, 3) := by decide +kernel
theorem dL_call_151 : decode cL_call 151 = .ok (.ireturn, 1) := by decide +kernel
theorem dL_call_152 : decode cL_call 152 = .ok (.aload_n 0, 1) := by decide +kernel
theorem dL_call_153 : decode cL_call 153 = .ok (.iload_n 2, 1) := by decide +kernel
theorem dL_call_154 : decode cL_call 154 = .ok (.iload_n 3, 1) := by decide +kernel
theorem dL_call_155 : decode cL_call 155 = .ok (.invokestatic 128, 3) := by decide +kernel
theorem dL_call_158 : decode cL_call 158 = .ok (.ireturn, 1) := by decide +kernel
theorem dL_call_159 : decode cL_call 159 = .ok (.aload_n 0, 1) := by decide +kernel
theorem dL_call_160 : decode cL_call 160 = .ok (.iload_n 2, 1) := by decide +kernel
theorem dL_call_161 : decode cL_call 161 = .ok (.invokestatic 131, 3) := by decide +kernel
theorem dL_call_164 : decode cL_call 164 = .ok (.ireturn, 1) := by decide +kernel
theorem dL_call_165 : decode cL_call 165 = .ok (.aload_n 0, 1) := by decide +kernel
theorem dL_call_166 : decode cL_call 166 = .ok (.iload_n 2, 1) := by decide +kernel
theorem dL_call_167 : decode cL_call 167 = .ok (.iload_n 3, 1) := by decide +kernel
theorem dL_call_168 : decode cL_call 168 = .ok (.invokestatic 134, 3) := by decide +kernel
theorem dL_call_171 : decode cL_call 171 = .ok (.ireturn, 1) := by decide +kernel
theorem dL_call_172 : decode cL_call 172 = .ok (.aload_n 0, 1) := by decide +kernel
theorem dL_call_173 : decode cL_call 173 = .ok (.iload_n 2, 1) := by decide +kernel
theorem dL_call_174 : decode cL_call 174 = .ok (.invokestatic 137, 3) := by decide +kernel
theorem dL_call_177 : decode cL_call 177 = .ok (.ireturn, 1) := by decide +kernel
theorem dL_call_178 : decode cL_call 178 = .ok (.aload_n 0, 1) := by decide +kernel
theorem dL_call_179 : decode cL_call 179 = .ok (.iload_n 2, 1) := by decide +kernel
theorem dL_call_180 : decode cL_call 180 = .ok (.invokestatic 140, 3) := by decide +kernel
theorem dL_call_183 : decode cL_call 183 = .ok (.ireturn, 1) := by decide +kernel
theorem dL_call_184 : decode cL_call 184 = .ok (.aload_n 0, 1) := by decide +kernel
theorem dL_call_185 : decode cL_call 185 = .ok (.invokestatic 143, 3) := by decide +kernel
theorem dL_call_188 : decode cL_call 188 = .ok (.ireturn, 1) := by decide +kernel
theorem dL_call_189 : decode cL_call 189 = .ok (.aload_n 0, 1) := by decide +kernel
theorem dL_call_190 : decode cL_call 190 = .ok (.iload_n 2, 1) := by decide +kernel
theorem dL_call_191 : decode cL_call 191 = .ok (.invokestatic 146, 3) := by decide +kernel
theorem dL_call_194 : decode cL_call 194 = .ok (.ireturn, 1) := by decide +kernel
theorem dL_call_195 : decode cL_call 195 = .ok (.aload_n 0, 1) := by decide +kernel
theorem dL_call_196 : decode cL_call 196 = .ok (.invokestatic 149, 3) := by decide +kernel
theorem dL_call_199 : decode cL_call 199 = .ok (.ireturn, 1) := by decide +kernel
theorem dL_call_200 : decode cL_call 200 = .ok (.aload_n 0, 1) := by decide +kernel
theorem dL_call_201 : decode cL_call 201 = .ok (.iload_n 2, 1) := by decide +kernel
theorem dL_call_202 : decode cL_call 202 = .ok (.invokestatic 152, 3) := by decide +kernel
theorem dL_call_205 : decode cL_call 205 = .ok (.ireturn, 1) := by decide +kernel
theorem dL_call_206 : decode cL_call 206 = .ok (.aload_n 0, 1) := by decide +kernel
theorem dL_call_207 : decode cL_call 207 = .ok (.iload_n 2, 1) := by decide +kernel
theorem dL_call_208 : decode cL_call 208 = .ok (.invokestatic 155, 3) := by decide +kernel
theorem dL_call_211 : decode cL_call 211 = .ok (.ireturn, 1) := by decide +kernel
theorem dL_call_212 : decode cL_call 212 = .ok (.aload_n 0, 1) := by decide +kernel
theorem dL_call_213 : decode cL_call 213 = .ok (.iload_n 2, 1) := by decide +kernel
theorem dL_call_214 : decode cL_call 214 = .ok (.invokestatic 158, 3) := by decide +kernel
theorem dL_call_217 : decode cL_call 217 = .ok (.ireturn, 1) := by decide +kernel
theorem dL_call_218 : decode cL_call 218 = .ok (.aload_n 0, 1) := by decide +kernel
theorem dL_call_219 : decode cL_call 219 = .ok (.iload_n 2, 1) := by decide +kernel
theorem dL_call_220 : decode cL_call 220 = .ok (.iload_n 3, 1) := by decide +kernel
theorem dL_call_221 : decode cL_call 221 = .ok (.invokestatic 161, 3) := by decide +kernel
theorem dL_call_224 : decode cL_call 224 = .ok (.ireturn, 1) := by decide +kernel
theorem dL_call_225 : decode cL_call 225 = .ok (.aload_n 0, 1) := by decide +kernel
theorem dL_call_226 : decode cL_call 226 = .ok (.iload_n 2, 1) := by decide +kernel
theorem dL_call_227 : decode cL_call 227 = .ok (.invokestatic 164, 3) := by decide +kernel
theorem dL_call_230 : decode cL_call 230 = .ok (.ireturn, 1) := by decide +kernel
theorem dL_call_231 : decode cL_call 231 = .ok (.aload_n 0, 1) := by decide +kernel
theorem dL_call_232 : decode cL_call 232 = .ok (.iload_n 2, 1) := by decide +kernel
theorem dL_call_233 : decode cL_call 233 = .ok (.invokestatic 167, 3) := by decide +kernel
theorem dL_call_236 : decode cL_call 236 = .ok (.ireturn, 1) := by decide +kernel
theorem dL_cell_0 : decode cL_cell 0 = .ok (.iload_n 1, 1) := by decide +kernel
theorem dL_cell_1 : decode cL_cell 1 = .ok (.aload_n 0, 1) := by decide +kernel
theorem dL_cell_2 : decode cL_cell 2 = .ok (.arraylength, 1) := by decide +kernel
theorem dL_cell_3 : decode cL_cell 3 = .ok (.if_icmp .ge 9, 3) := by decide +kernel
theorem dL_cell_6 : decode cL_cell 6 = .ok (.aload_n 0, 1) := by decide +kernel
theorem dL_cell_7 : decode cL_cell 7 = .ok (.iload_n 1, 1) := by decide +kernel
theorem dL_cell_8 : decode cL_cell 8 = .ok (.iaload, 1) := by decide +kernel
theorem dL_cell_9 : decode cL_cell 9 = .ok (.goto 13, 3) := by decide +kernel
theorem dL_cell_12 : decode cL_cell 12 = .ok (.ldc 170, 2) := by decide +kernel
theorem dL_cell_14 : decode cL_cell 14 = .ok (.iload_n 1, 1) := by decide +kernel
theorem dL_cell_15 : decode cL_cell 15 = .ok (.iconst 3, 1) := by decide +kernel
theorem dL_cell_16 : decode cL_cell 16 = .ok (.iadd, 1) := by decide +kernel
theorem dL_cell_17 : decode cL_cell 17 = .ok (.imul, 1) := by decide +kernel
theorem dL_cell_18 : decode cL_cell 18 = .ok (.sipush 11821, 3) := by decide +kernel
theorem dL_cell_21 : decode cL_cell 21 = .ok (.iadd, 1) := by decide +kernel
theorem dL_cell_22 : decode cL_cell 22 = .ok (.ldc 171, 2) := by decide +kernel
theorem dL_cell_24 : decode cL_cell 24 = .ok (.iand, 1) := by decide +kernel
theorem dL_cell_25 : decode cL_cell 25 = .ok (.ireturn, 1) := by decide +kernel
theorem dL_thrown_0 : decode cL_thrown 0 = .ok (.iload_n 0, 1) := by decide +kernel
theorem dL_thrown_1 : decode cL_thrown 1 = .ok (.ldc 15, 2) := by decide +kernel
theorem dL_thrown_3 : decode cL_thrown 3 = .ok (.if_icmp .eq 15, 3) := by decide +kernel
theorem dL_thrown_6 : decode cL_thrown 6 = .ok (.iload_n 0, 1) := by decide +kernel
theorem dL_thrown_7 : decode cL_thrown 7 = .ok (.ldc 22, 2) := by decide +kernel
theorem dL_thrown_9 : decode cL_thrown 9 = .ok (.if_icmp .eq 9, 3) := by decide +kernel
theorem dL_thrown_12 : decode cL_thrown 12 = .ok (.iload_n 0, 1) := by decide +kernel
theorem dL_thrown_13 : decode cL_thrown 13 = .ok (.ldc 33, 2) := by decide +kernel
theorem dL_thrown_15 : decode cL_thrown 15 = .ok (.if_icmp .ne 7, 3) := by decide +kernel
theorem dL_thrown_18 : decode cL_thrown 18 = .ok (.iconst 1, 1) := by decide +kernel
theorem dL_thrown_19 : decode cL_thrown 19 = .ok (.goto 4, 3) := by decide +kernel
theorem dL_thrown_22 : decode cL_thrown 22 = .ok (.iconst 0, 1) := by decide +kernel
theorem dL_thrown_23 : decode cL_thrown 23 = .ok (.ireturn, 1) := by decide +kernel
theorem dL_refuses_0 : decode cL_refuses 0 = .ok (.aload_n 0, 1) := by decide +kernel
theorem dL_refuses_1 : decode cL_refuses 1 = .ok (.iconst 2, 1) := by decide +kernel
theorem dL_refuses_2 : decode cL_refuses 2 = .ok (.iconst 0, 1) := by decide +kernel
theorem dL_refuses_3 : decode cL_refuses 3 = .ok (.iconst 0, 1) := by decide +kernel
theorem dL_refuses_4 : decode cL_refuses 4 = .ok (.iconst 0, 1) := by decide +kernel
theorem dL_refuses_5 : decode cL_refuses 5 = .ok (.invokestatic 172, 3) := by decide +kernel
theorem dL_refuses_8 : decode cL_refuses 8 = .ok (.istore_n 2, 1) := by decide +kernel
theorem dL_refuses_9 : decode cL_refuses 9 = .ok (.aload_n 0, 1) := by decide +kernel
theorem dL_refuses_10 : decode cL_refuses 10 = .ok (.iconst 2, 1) := by decide +kernel
theorem dL_refuses_11 : decode cL_refuses 11 = .ok (.iconst 3, 1) := by decide +kernel
theorem dL_refuses_12 : decode cL_refuses 12 = .ok (.iconst 0, 1) := by decide +kernel
theorem dL_refuses_13 : decode cL_refuses 13 = .ok (.iconst 0, 1) := by decide +kernel
theorem dL_refuses_14 : decode cL_refuses 14 = .ok (.invokestatic 172, 3) := by decide +kernel
theorem dL_refuses_17 : decode cL_refuses 17 = .ok (.istore_n 3, 1) := by decide +kernel
theorem dL_refuses_18 : decode cL_refuses 18 = .ok (.iload_n 1, 1) := by decide +kernel
theorem dL_refuses_19 : decode cL_refuses 19 = .ok (.iconst 2, 1) := by decide +kernel
theorem dL_refuses_20 : decode cL_refuses 20 = .ok (.irem, 1) := by decide +kernel
theorem dL_refuses_21 : decode cL_refuses 21 = .ok (.ifCond .ne 12, 3) := by decide +kernel
theorem dL_refuses_24 : decode cL_refuses 24 = .ok (.iconst (-1), 1) := by decide +kernel
theorem dL_refuses_25 : decode cL_refuses 25 = .ok (.iload_n 1, 1) := by decide +kernel
theorem dL_refuses_26 : decode cL_refuses 26 = .ok (.bipush 99, 2) := by decide +kernel
theorem dL_refuses_28 : decode cL_refuses 28 = .ok (.irem, 1) := by decide +kernel
theorem dL_refuses_29 : decode cL_refuses 29 = .ok (.isub, 1) := by decide +kernel
theorem dL_refuses_30 : decode cL_refuses 30 = .ok (.goto 9, 3) := by decide +kernel
theorem dL_refuses_33 : decode cL_refuses 33 = .ok (.iload_n 2, 1) := by decide +kernel
theorem dL_refuses_34 : decode cL_refuses 34 = .ok (.iload_n 1, 1) := by decide +kernel
theorem dL_refuses_35 : decode cL_refuses 35 = .ok (.bipush 99, 2) := by decide +kernel
theorem dL_refuses_37 : decode cL_refuses 37 = .ok (.irem, 1) := by decide +kernel
theorem dL_refuses_38 : decode cL_refuses 38 = .ok (.iadd, 1) := by decide +kernel
theorem dL_refuses_39 : decode cL_refuses 39 = .ok (.istore 4, 2) := by decide +kernel
theorem dL_refuses_41 : decode cL_refuses 41 = .ok (.iload_n 1, 1) := by decide +kernel
theorem dL_refuses_42 : decode cL_refuses 42 = .ok (.iconst 2, 1) := by decide +kernel
theorem dL_refuses_43 : decode cL_refuses 43 = .ok (.irem, 1) := by decide +kernel
theorem dL_refuses_44 : decode cL_refuses 44 = .ok (.ifCond .ne 12, 3) := by decide +kernel
theorem dL_refuses_47 : decode cL_refuses 47 = .ok (.iconst (-1), 1) := by decide +kernel
theorem dL_refuses_48 : decode cL_refuses 48 = .ok (.iload_n 1, 1) := by decide +kernel
theorem dL_refuses_49 : decode cL_refuses 49 = .ok (.bipush 99, 2) := by decide +kernel
theorem dL_refuses_51 : decode cL_refuses 51 = .ok (.irem, 1) := by decide +kernel
theorem dL_refuses_52 : decode cL_refuses 52 = .ok (.isub, 1) := by decide +kernel
theorem dL_refuses_53 : decode cL_refuses 53 = .ok (.goto 9, 3) := by decide +kernel
theorem dL_refuses_56 : decode cL_refuses 56 = .ok (.iload_n 3, 1) := by decide +kernel
theorem dL_refuses_57 : decode cL_refuses 57 = .ok (.iload_n 1, 1) := by decide +kernel
theorem dL_refuses_58 : decode cL_refuses 58 = .ok (.bipush 99, 2) := by decide +kernel
theorem dL_refuses_60 : decode cL_refuses 60 = .ok (.irem, 1) := by decide +kernel
theorem dL_refuses_61 : decode cL_refuses 61 = .ok (.iadd, 1) := by decide +kernel
theorem dL_refuses_62 : decode cL_refuses 62 = .ok (.istore 5, 2) := by decide +kernel
theorem dL_refuses_64 : decode cL_refuses 64 = .ok (.iload_n 1, 1) := by decide +kernel
theorem dL_refuses_65 : decode cL_refuses 65 = .ok (.iconst 2, 1) := by decide +kernel
theorem dL_refuses_66 : decode cL_refuses 66 = .ok (.irem, 1) := by decide +kernel
theorem dL_refuses_67 : decode cL_refuses 67 = .ok (.ifCond .ne 12, 3) := by decide +kernel
theorem dL_refuses_70 : decode cL_refuses 70 = .ok (.iconst (-1), 1) := by decide +kernel
theorem dL_refuses_71 : decode cL_refuses 71 = .ok (.iload_n 1, 1) := by decide +kernel
theorem dL_refuses_72 : decode cL_refuses 72 = .ok (.bipush 9, 2) := by decide +kernel
theorem dL_refuses_74 : decode cL_refuses 74 = .ok (.irem, 1) := by decide +kernel
theorem dL_refuses_75 : decode cL_refuses 75 = .ok (.isub, 1) := by decide +kernel
theorem dL_refuses_76 : decode cL_refuses 76 = .ok (.goto 9, 3) := by decide +kernel
theorem dL_refuses_79 : decode cL_refuses 79 = .ok (.iconst 2, 1) := by decide +kernel
theorem dL_refuses_80 : decode cL_refuses 80 = .ok (.iload_n 1, 1) := by decide +kernel
theorem dL_refuses_81 : decode cL_refuses 81 = .ok (.bipush 9, 2) := by decide +kernel
theorem dL_refuses_83 : decode cL_refuses 83 = .ok (.irem, 1) := by decide +kernel
theorem dL_refuses_84 : decode cL_refuses 84 = .ok (.iadd, 1) := by decide +kernel
theorem dL_refuses_85 : decode cL_refuses 85 = .ok (.istore 6, 2) := by decide +kernel
theorem dL_refuses_87 : decode cL_refuses 87 = .ok (.aload_n 0, 1) := by decide +kernel
theorem dL_refuses_88 : decode cL_refuses 88 = .ok (.iconst 0, 1) := by decide +kernel
theorem dL_refuses_89 : decode cL_refuses 89 = .ok (.iload_n 1, 1) := by decide +kernel
theorem dL_refuses_90 : decode cL_refuses 90 = .ok (.iconst 2, 1) := by decide +kernel
theorem dL_refuses_91 : decode cL_refuses 91 = .ok (.irem, 1) := by decide +kernel
theorem dL_refuses_92 : decode cL_refuses 92 = .ok (.ifCond .ne 12, 3) := by decide +kernel
theorem dL_refuses_95 : decode cL_refuses 95 = .ok (.iconst (-1), 1) := by decide +kernel
theorem dL_refuses_96 : decode cL_refuses 96 = .ok (.iload_n 1, 1) := by decide +kernel
theorem dL_refuses_97 : decode cL_refuses 97 = .ok (.bipush 9, 2) := by decide +kernel
theorem dL_refuses_99 : decode cL_refuses 99 = .ok (.irem, 1) := by decide +kernel
theorem dL_refuses_100 : decode cL_refuses 100 = .ok (.isub, 1) := by decide +kernel
theorem dL_refuses_101 : decode cL_refuses 101 = .ok (.goto 11, 3) := by decide +kernel
theorem dL_refuses_104 : decode cL_refuses 104 = .ok (.sipush 256, 3) := by decide +kernel
theorem dL_refuses_107 : decode cL_refuses 107 = .ok (.iload_n 1, 1) := by decide +kernel
theorem dL_refuses_108 : decode cL_refuses 108 = .ok (.bipush 9, 2) := by decide +kernel
theorem dL_refuses_110 : decode cL_refuses 110 = .ok (.irem, 1) := by decide +kernel
theorem dL_refuses_111 : decode cL_refuses 111 = .ok (.iadd, 1) := by decide +kernel
theorem dL_refuses_112 : decode cL_refuses 112 = .ok (.iconst 0, 1) := by decide +kernel
theorem dL_refuses_113 : decode cL_refuses 113 = .ok (.iconst 0, 1) := by decide +kernel
theorem dL_refuses_114 : decode cL_refuses 114 = .ok (.invokestatic 172, 3) := by decide +kernel
theorem dL_refuses_117 : decode cL_refuses 117 = .ok (.ldc 22, 2) := by decide +kernel
theorem dL_refuses_119 : decode cL_refuses 119 = .ok (.if_icmp .ne 589, 3) := by decide +kernel
theorem dL_refuses_122 : decode cL_refuses 122 = .ok (.aload_n 0, 1) := by decide +kernel
theorem dL_refuses_123 : decode cL_refuses 123 = .ok (.iconst 2, 1) := by decide +kernel
theorem dL_refuses_124 : decode cL_refuses 124 = .ok (.bipush 10, 2) := by decide +kernel
theorem dL_refuses_126 : decode cL_refuses 126 = .ok (.iload_n 1, 1) := by decide +kernel
theorem dL_refuses_127 : decode cL_refuses 127 = .ok (.bipush 50, 2) := by decide +kernel
theorem dL_refuses_129 : decode cL_refuses 129 = .ok (.irem, 1) := by decide +kernel
theorem dL_refuses_130 : decode cL_refuses 130 = .ok (.iadd, 1) := by decide +kernel
theorem dL_refuses_131 : decode cL_refuses 131 = .ok (.iconst 0, 1) := by decide +kernel
theorem dL_refuses_132 : decode cL_refuses 132 = .ok (.iconst 0, 1) := by decide +kernel
theorem dL_refuses_133 : decode cL_refuses 133 = .ok (.invokestatic 172, 3) := by decide +kernel
theorem dL_refuses_136 : decode cL_refuses 136 = .ok (.ldc 22, 2) := by decide +kernel
theorem dL_refuses_138 : decode cL_refuses 138 = .ok (.if_icmp .ne 570, 3) := by decide +kernel
theorem dL_refuses_141 : decode cL_refuses 141 = .ok (.aload_n 0, 1) := by decide +kernel
theorem dL_refuses_142 : decode cL_refuses 142 = .ok (.iconst 3, 1) := by decide +kernel
theorem dL_refuses_143 : decode cL_refuses 143 = .ok (.iload 4, 2) := by decide +kernel
theorem dL_refuses_145 : decode cL_refuses 145 = .ok (.bipush 99, 2) := by decide +kernel
theorem dL_refuses_147 : decode cL_refuses 147 = .ok (.iconst 0, 1) := by decide +kernel
theorem dL_refuses_148 : decode cL_refuses 148 = .ok (.invokestatic 172, 3) := by decide +kernel
theorem dL_refuses_151 : decode cL_refuses 151 = .ok (.ldc 15, 2) := by decide +kernel
theorem dL_refuses_153 : decode cL_refuses 153 = .ok (.if_icmp .ne 555, 3) := by decide +kernel
theorem dL_refuses_156 : decode cL_refuses 156 = .ok (.aload_n 0, 1) := by decide +kernel
theorem dL_refuses_157 : decode cL_refuses 157 = .ok (.iconst 3, 1) := by decide +kernel
theorem dL_refuses_158 : decode cL_refuses 158 = .ok (.iconst 0, 1) := by decide +kernel
theorem dL_refuses_159 : decode cL_refuses 159 = .ok (.iconst 3, 1) := by decide +kernel
theorem dL_refuses_160 : decode cL_refuses 160 = .ok (.iload_n 1, 1) := by decide +kernel
theorem dL_refuses_161 : decode cL_refuses 161 = .ok (.bipush 9, 2) := by decide +kernel
theorem dL_refuses_163 : decode cL_refuses 163 = .ok (.irem, 1) := by decide +kernel
theorem dL_refuses_164 : decode cL_refuses 164 = .ok (.iadd, 1) := by decide +kernel
theorem dL_refuses_165 : decode cL_refuses 165 = .ok (.iconst 0, 1) := by decide +kernel
theorem dL_refuses_166 : decode cL_refuses 166 = .ok (.invokestatic 172, 3) := by decide +kernel
theorem dL_refuses_169 : decode cL_refuses 169 = .ok (.ldc 22, 2) := by decide +kernel
theorem dL_refuses_171 : decode cL_refuses 171 = .ok (.if_icmp .ne 537, 3) := by decide +kernel
theorem dL_refuses_174 : decode cL_refuses 174 = .ok (.aload_n 0, 1) := by decide +kernel
theorem dL_refuses_175 : decode cL_refuses 175 = .ok (.iconst 4, 1) := by decide +kernel
theorem dL_refuses_176 : decode cL_refuses 176 = .ok (.iload 4, 2) := by decide +kernel
theorem dL_refuses_178 : decode cL_refuses 178 = .ok (.bipush 99, 2) := by decide +kernel
theorem dL_refuses_180 : decode cL_refuses 180 = .ok (.iconst 0, 1) := by decide +kernel
theorem dL_refuses_181 : decode cL_refuses 181 = .ok (.invokestatic 172, 3) := by decide +kernel
theorem dL_refuses_184 : decode cL_refuses 184 = .ok (.ldc 15, 2) := by decide +kernel
theorem dL_refuses_186 : decode cL_refuses 186 = .ok (.if_icmp .ne 522, 3) := by decide +kernel
theorem dL_refuses_189 : decode cL_refuses 189 = .ok (.aload_n 0, 1) := by decide +kernel
theorem dL_refuses_190 : decode cL_refuses 190 = .ok (.iconst 4, 1) := by decide +kernel
theorem dL_refuses_191 : decode cL_refuses 191 = .ok (.iconst 0, 1) := by decide +kernel
theorem dL_refuses_192 : decode cL_refuses 192 = .ok (.iconst 4, 1) := by decide +kernel
theorem dL_refuses_193 : decode cL_refuses 193 = .ok (.iload_n 1, 1) := by decide +kernel
theorem dL_refuses_194 : decode cL_refuses 194 = .ok (.bipush 9, 2) := by decide +kernel
theorem dL_refuses_196 : decode cL_refuses 196 = .ok (.irem, 1) := by decide +kernel
theorem dL_refuses_197 : decode cL_refuses 197 = .ok (.iadd, 1) := by decide +kernel
theorem dL_refuses_198 : decode cL_refuses 198 = .ok (.iconst 0, 1) := by decide +kernel
theorem dL_refuses_199 : decode cL_refuses 199 = .ok (.invokestatic 172, 3) := by decide +kernel
theorem dL_refuses_202 : decode cL_refuses 202 = .ok (.ldc 22, 2) := by decide +kernel
theorem dL_refuses_204 : decode cL_refuses 204 = .ok (.if_icmp .ne 504, 3) := by decide +kernel
theorem dL_refuses_207 : decode cL_refuses 207 = .ok (.aload_n 0, 1) := by decide +kernel
theorem dL_refuses_208 : decode cL_refuses 208 = .ok (.iconst 5, 1) := by decide +kernel
theorem dL_refuses_209 : decode cL_refuses 209 = .ok (.iload 5, 2) := by decide +kernel
theorem dL_refuses_211 : decode cL_refuses 211 = .ok (.bipush 99, 2) := by decide +kernel
theorem dL_refuses_213 : decode cL_refuses 213 = .ok (.iconst 0, 1) := by decide +kernel
theorem dL_refuses_214 : decode cL_refuses 214 = .ok (.invokestatic 172, 3) := by decide +kernel
theorem dL_refuses_217 : decode cL_refuses 217 = .ok (.ldc 15, 2) := by decide +kernel
theorem dL_refuses_219 : decode cL_refuses 219 = .ok (.if_icmp .ne 489, 3) := by decide +kernel
theorem dL_refuses_222 : decode cL_refuses 222 = .ok (.aload_n 0, 1) := by decide +kernel
theorem dL_refuses_223 : decode cL_refuses 223 = .ok (.iconst 5, 1) := by decide +kernel
theorem dL_refuses_224 : decode cL_refuses 224 = .ok (.iconst 0, 1) := by decide +kernel
theorem dL_refuses_225 : decode cL_refuses 225 = .ok (.iconst 4, 1) := by decide +kernel
theorem dL_refuses_226 : decode cL_refuses 226 = .ok (.iload_n 1, 1) := by decide +kernel
theorem dL_refuses_227 : decode cL_refuses 227 = .ok (.bipush 9, 2) := by decide +kernel
theorem dL_refuses_229 : decode cL_refuses 229 = .ok (.irem, 1) := by decide +kernel
theorem dL_refuses_230 : decode cL_refuses 230 = .ok (.iadd, 1) := by decide +kernel
theorem dL_refuses_231 : decode cL_refuses 231 = .ok (.iconst 0, 1) := by decide +kernel
theorem dL_refuses_232 : decode cL_refuses 232 = .ok (.invokestatic 172, 3) := by decide +kernel
theorem dL_refuses_235 : decode cL_refuses 235 = .ok (.ldc 22, 2) := by decide +kernel
theorem dL_refuses_237 : decode cL_refuses 237 = .ok (.if_icmp .ne 471, 3) := by decide +kernel
theorem dL_refuses_240 : decode cL_refuses 240 = .ok (.aload_n 0, 1) := by decide +kernel
theorem dL_refuses_241 : decode cL_refuses 241 = .ok (.bipush 6, 2) := by decide +kernel
theorem dL_refuses_243 : decode cL_refuses 243 = .ok (.iload 6, 2) := by decide +kernel
theorem dL_refuses_245 : decode cL_refuses 245 = .ok (.iconst 0, 1) := by decide +kernel
theorem dL_refuses_246 : decode cL_refuses 246 = .ok (.iconst 0, 1) := by decide +kernel
theorem dL_refuses_247 : decode cL_refuses 247 = .ok (.invokestatic 172, 3) := by decide +kernel
theorem dL_refuses_250 : decode cL_refuses 250 = .ok (.ldc 15, 2) := by decide +kernel
theorem dL_refuses_252 : decode cL_refuses 252 = .ok (.if_icmp .ne 456, 3) := by decide +kernel
theorem dL_refuses_255 : decode cL_refuses 255 = .ok (.aload_n 0, 1) := by decide +kernel
theorem dL_refuses_256 : decode cL_refuses 256 = .ok (.bipush 6, 2) := by decide +kernel
theorem dL_refuses_258 : decode cL_refuses 258 = .ok (.iconst 0, 1) := by decide +kernel
theorem dL_refuses_259 : decode cL_refuses 259 = .ok (.iload_n 1, 1) := by decide +kernel
theorem dL_refuses_260 : decode cL_refuses 260 = .ok (.iconst 2, 1) := by decide +kernel
theorem dL_refuses_261 : decode cL_refuses 261 = .ok (.irem, 1) := by decide +kernel
theorem dL_refuses_262 : decode cL_refuses 262 = .ok (.ifCond .ne 7, 3) := by decide +kernel
theorem dL_refuses_265 : decode cL_refuses 265 = .ok (.iconst (-1), 1) := by decide +kernel
theorem dL_refuses_266 : decode cL_refuses 266 = .ok (.goto 9, 3) := by decide +kernel
theorem dL_refuses_269 : decode cL_refuses 269 = .ok (.iconst 4, 1) := by decide +kernel
theorem dL_refuses_270 : decode cL_refuses 270 = .ok (.iload_n 1, 1) := by decide +kernel
theorem dL_refuses_271 : decode cL_refuses 271 = .ok (.bipush 9, 2) := by decide +kernel
theorem dL_refuses_273 : decode cL_refuses 273 = .ok (.irem, 1) := by decide +kernel
theorem dL_refuses_274 : decode cL_refuses 274 = .ok (.iadd, 1) := by decide +kernel
theorem dL_refuses_275 : decode cL_refuses 275 = .ok (.iconst 0, 1) := by decide +kernel
theorem dL_refuses_276 : decode cL_refuses 276 = .ok (.invokestatic 172, 3) := by decide +kernel
theorem dL_refuses_279 : decode cL_refuses 279 = .ok (.ldc 15, 2) := by decide +kernel
theorem dL_refuses_281 : decode cL_refuses 281 = .ok (.if_icmp .ne 427, 3) := by decide +kernel
theorem dL_refuses_284 : decode cL_refuses 284 = .ok (.aload_n 0, 1) := by decide +kernel
theorem dL_refuses_285 : decode cL_refuses 285 = .ok (.bipush 7, 2) := by decide +kernel
theorem dL_refuses_287 : decode cL_refuses 287 = .ok (.iload_n 1, 1) := by decide +kernel
theorem dL_refuses_288 : decode cL_refuses 288 = .ok (.iconst 2, 1) := by decide +kernel
theorem dL_refuses_289 : decode cL_refuses 289 = .ok (.irem, 1) := by decide +kernel
theorem dL_refuses_290 : decode cL_refuses 290 = .ok (.ifCond .ne 7, 3) := by decide +kernel
theorem dL_refuses_293 : decode cL_refuses 293 = .ok (.iconst (-1), 1) := by decide +kernel
theorem dL_refuses_294 : decode cL_refuses 294 = .ok (.goto 9, 3) := by decide +kernel
theorem dL_refuses_297 : decode cL_refuses 297 = .ok (.iconst 4, 1) := by decide +kernel
theorem dL_refuses_298 : decode cL_refuses 298 = .ok (.iload_n 1, 1) := by decide +kernel
theorem dL_refuses_299 : decode cL_refuses 299 = .ok (.bipush 9, 2) := by decide +kernel
theorem dL_refuses_301 : decode cL_refuses 301 = .ok (.irem, 1) := by decide +kernel
theorem dL_refuses_302 : decode cL_refuses 302 = .ok (.iadd, 1) := by decide +kernel
theorem dL_refuses_303 : decode cL_refuses 303 = .ok (.iconst 0, 1) := by decide +kernel
theorem dL_refuses_304 : decode cL_refuses 304 = .ok (.iconst 0, 1) := by decide +kernel
theorem dL_refuses_305 : decode cL_refuses 305 = .ok (.invokestatic 172, 3) := by decide +kernel
theorem dL_refuses_308 : decode cL_refuses 308 = .ok (.ldc 15, 2) := by decide +kernel
theorem dL_refuses_310 : decode cL_refuses 310 = .ok (.if_icmp .ne 398, 3) := by decide +kernel
theorem dL_refuses_313 : decode cL_refuses 313 = .ok (.aload_n 0, 1) := by decide +kernel
theorem dL_refuses_314 : decode cL_refuses 314 = .ok (.bipush 7, 2) := by decide +kernel
theorem dL_refuses_316 : decode cL_refuses 316 = .ok (.iconst 0, 1) := by decide +kernel
theorem dL_refuses_317 : decode cL_refuses 317 = .ok (.iload_n 1, 1) := by decide +kernel
theorem dL_refuses_318 : decode cL_refuses 318 = .ok (.iconst 2, 1) := by decide +kernel
theorem dL_refuses_319 : decode cL_refuses 319 = .ok (.irem, 1) := by decide +kernel
theorem dL_refuses_320 : decode cL_refuses 320 = .ok (.ifCond .ne 7, 3) := by decide +kernel
theorem dL_refuses_323 : decode cL_refuses 323 = .ok (.iconst 0, 1) := by decide +kernel
theorem dL_refuses_324 : decode cL_refuses 324 = .ok (.goto 10, 3) := by decide +kernel
theorem dL_refuses_327 : decode cL_refuses 327 = .ok (.bipush 10, 2) := by decide +kernel
theorem dL_refuses_329 : decode cL_refuses 329 = .ok (.iload_n 1, 1) := by decide +kernel
theorem dL_refuses_330 : decode cL_refuses 330 = .ok (.bipush 9, 2) := by decide +kernel
theorem dL_refuses_332 : decode cL_refuses 332 = .ok (.irem, 1) := by decide +kernel
theorem dL_refuses_333 : decode cL_refuses 333 = .ok (.iadd, 1) := by decide +kernel
theorem dL_refuses_334 : decode cL_refuses 334 = .ok (.iconst 0, 1) := by decide +kernel
theorem dL_refuses_335 : decode cL_refuses 335 = .ok (.invokestatic 172, 3) := by decide +kernel
theorem dL_refuses_338 : decode cL_refuses 338 = .ok (.ldc 22, 2) := by decide +kernel
theorem dL_refuses_340 : decode cL_refuses 340 = .ok (.if_icmp .ne 368, 3) := by decide +kernel
theorem dL_refuses_343 : decode cL_refuses 343 = .ok (.aload_n 0, 1) := by decide +kernel
theorem dL_refuses_344 : decode cL_refuses 344 = .ok (.bipush 8, 2) := by decide +kernel
theorem dL_refuses_346 : decode cL_refuses 346 = .ok (.iload 4, 2) := by decide +kernel
theorem dL_refuses_348 : decode cL_refuses 348 = .ok (.iconst 0, 1) := by decide +kernel
theorem dL_refuses_349 : decode cL_refuses 349 = .ok (.iconst 0, 1) := by decide +kernel
theorem dL_refuses_350 : decode cL_refuses 350 = .ok (.invokestatic 172, 3) := by decide +kernel
theorem dL_refuses_353 : decode cL_refuses 353 = .ok (.ldc 15, 2) := by decide +kernel
theorem dL_refuses_355 : decode cL_refuses 355 = .ok (.if_icmp .ne 353, 3) := by decide +kernel
theorem dL_refuses_358 : decode cL_refuses 358 = .ok (.aload_n 0, 1) := by decide +kernel
theorem dL_refuses_359 : decode cL_refuses 359 = .ok (.bipush 8, 2) := by decide +kernel
theorem dL_refuses_361 : decode cL_refuses 361 = .ok (.iconst 0, 1) := by decide +kernel
theorem dL_refuses_362 : decode cL_refuses 362 = .ok (.iload 4, 2) := by decide +kernel
theorem dL_refuses_364 : decode cL_refuses 364 = .ok (.iconst 0, 1) := by decide +kernel
theorem dL_refuses_365 : decode cL_refuses 365 = .ok (.invokestatic 172, 3) := by decide +kernel
theorem dL_refuses_368 : decode cL_refuses 368 = .ok (.ldc 15, 2) := by decide +kernel
theorem dL_refuses_370 : decode cL_refuses 370 = .ok (.if_icmp .ne 338, 3) := by decide +kernel
theorem dL_refuses_373 : decode cL_refuses 373 = .ok (.aload_n 0, 1) := by decide +kernel
theorem dL_refuses_374 : decode cL_refuses 374 = .ok (.bipush 9, 2) := by decide +kernel
theorem dL_refuses_376 : decode cL_refuses 376 = .ok (.iload 4, 2) := by decide +kernel
theorem dL_refuses_378 : decode cL_refuses 378 = .ok (.iconst 0, 1) := by decide +kernel
theorem dL_refuses_379 : decode cL_refuses 379 = .ok (.iconst 0, 1) := by decide +kernel
theorem dL_refuses_380 : decode cL_refuses 380 = .ok (.invokestatic 172, 3) := by decide +kernel
theorem dL_refuses_383 : decode cL_refuses 383 = .ok (.ldc 15, 2) := by decide +kernel
theorem dL_refuses_385 : decode cL_refuses 385 = .ok (.if_icmp .ne 323, 3) := by decide +kernel
theorem dL_refuses_388 : decode cL_refuses 388 = .ok (.aload_n 0, 1) := by decide +kernel
theorem dL_refuses_389 : decode cL_refuses 389 = .ok (.iconst 0, 1) := by decide +kernel
theorem dL_refuses_390 : decode cL_refuses 390 = .ok (.iconst 1, 1) := by decide +kernel
theorem dL_refuses_391 : decode cL_refuses 391 = .ok (.invokestatic 176, 3) := by decide +kernel
theorem dL_refuses_394 : decode cL_refuses 394 = .ok (.ldc 15, 2) := by decide +kernel
theorem dL_refuses_396 : decode cL_refuses 396 = .ok (.if_icmp .ne 312, 3) := by decide +kernel
theorem dL_refuses_399 : decode cL_refuses 399 = .ok (.aload_n 0, 1) := by decide +kernel
theorem dL_refuses_400 : decode cL_refuses 400 = .ok (.iload 4, 2) := by decide +kernel
theorem dL_refuses_402 : decode cL_refuses 402 = .ok (.iconst 0, 1) := by decide +kernel
theorem dL_refuses_403 : decode cL_refuses 403 = .ok (.invokestatic 176, 3) := by decide +kernel
theorem dL_refuses_406 : decode cL_refuses 406 = .ok (.ldc 15, 2) := by decide +kernel
theorem dL_refuses_408 : decode cL_refuses 408 = .ok (.if_icmp .ne 300, 3) := by decide +kernel
theorem dL_refuses_411 : decode cL_refuses 411 = .ok (.aload_n 0, 1) := by decide +kernel
theorem dL_refuses_412 : decode cL_refuses 412 = .ok (.bipush 10, 2) := by decide +kernel
theorem dL_refuses_414 : decode cL_refuses 414 = .ok (.iload 5, 2) := by decide +kernel
theorem dL_refuses_416 : decode cL_refuses 416 = .ok (.bipush 9, 2) := by decide +kernel
theorem dL_refuses_418 : decode cL_refuses 418 = .ok (.iconst 0, 1) := by decide +kernel
theorem dL_refuses_419 : decode cL_refuses 419 = .ok (.invokestatic 172, 3) := by decide +kernel
theorem dL_refuses_422 : decode cL_refuses 422 = .ok (.ldc 15, 2) := by decide +kernel
theorem dL_refuses_424 : decode cL_refuses 424 = .ok (.if_icmp .ne 284, 3) := by decide +kernel
theorem dL_refuses_427 : decode cL_refuses 427 = .ok (.aload_n 0, 1) := by decide +kernel
theorem dL_refuses_428 : decode cL_refuses 428 = .ok (.bipush 10, 2) := by decide +kernel
theorem dL_refuses_430 : decode cL_refuses 430 = .ok (.iconst 0, 1) := by decide +kernel
theorem dL_refuses_431 : decode cL_refuses 431 = .ok (.iload_n 1, 1) := by decide +kernel
theorem dL_refuses_432 : decode cL_refuses 432 = .ok (.iconst 2, 1) := by decide +kernel
theorem dL_refuses_433 : decode cL_refuses 433 = .ok (.irem, 1) := by decide +kernel
theorem dL_refuses_434 : decode cL_refuses 434 = .ok (.ifCond .ne 13, 3) := by decide +kernel
theorem dL_refuses_437 : decode cL_refuses 437 = .ok (.bipush (-2), 2) := by decide +kernel
theorem dL_refuses_439 : decode cL_refuses 439 = .ok (.iload_n 1, 1) := by decide +kernel
theorem dL_refuses_440 : decode cL_refuses 440 = .ok (.bipush 9, 2) := by decide +kernel
theorem dL_refuses_442 : decode cL_refuses 442 = .ok (.irem, 1) := by decide +kernel
theorem dL_refuses_443 : decode cL_refuses 443 = .ok (.isub, 1) := by decide +kernel
theorem dL_refuses_444 : decode cL_refuses 444 = .ok (.goto 9, 3) := by decide +kernel
theorem dL_refuses_447 : decode cL_refuses 447 = .ok (.iconst 2, 1) := by decide +kernel
theorem dL_refuses_448 : decode cL_refuses 448 = .ok (.iload_n 1, 1) := by decide +kernel
theorem dL_refuses_449 : decode cL_refuses 449 = .ok (.bipush 9, 2) := by decide +kernel
theorem dL_refuses_451 : decode cL_refuses 451 = .ok (.irem, 1) := by decide +kernel
theorem dL_refuses_452 : decode cL_refuses 452 = .ok (.iadd, 1) := by decide +kernel
theorem dL_refuses_453 : decode cL_refuses 453 = .ok (.iconst 0, 1) := by decide +kernel
theorem dL_refuses_454 : decode cL_refuses 454 = .ok (.invokestatic 172, 3) := by decide +kernel
theorem dL_refuses_457 : decode cL_refuses 457 = .ok (.ldc 22, 2) := by decide +kernel
theorem dL_refuses_459 : decode cL_refuses 459 = .ok (.if_icmp .ne 249, 3) := by decide +kernel
theorem dL_refuses_462 : decode cL_refuses 462 = .ok (.aload_n 0, 1) := by decide +kernel
theorem dL_refuses_463 : decode cL_refuses 463 = .ok (.bipush 11, 2) := by decide +kernel
theorem dL_refuses_465 : decode cL_refuses 465 = .ok (.iload 5, 2) := by decide +kernel
theorem dL_refuses_467 : decode cL_refuses 467 = .ok (.iconst 0, 1) := by decide +kernel
theorem dL_refuses_468 : decode cL_refuses 468 = .ok (.iconst 0, 1) := by decide +kernel
theorem dL_refuses_469 : decode cL_refuses 469 = .ok (.invokestatic 172, 3) := by decide +kernel
theorem dL_refuses_472 : decode cL_refuses 472 = .ok (.ldc 15, 2) := by decide +kernel
theorem dL_refuses_474 : decode cL_refuses 474 = .ok (.if_icmp .ne 234, 3) := by decide +kernel
theorem dL_refuses_477 : decode cL_refuses 477 = .ok (.aload_n 0, 1) := by decide +kernel
theorem dL_refuses_478 : decode cL_refuses 478 = .ok (.bipush 12, 2) := by decide +kernel
theorem dL_refuses_480 : decode cL_refuses 480 = .ok (.iload 6, 2) := by decide +kernel
theorem dL_refuses_482 : decode cL_refuses 482 = .ok (.iconst 0, 1) := by decide +kernel
theorem dL_refuses_483 : decode cL_refuses 483 = .ok (.iconst 0, 1) := by decide +kernel
theorem dL_refuses_484 : decode cL_refuses 484 = .ok (.invokestatic 172, 3) := by decide +kernel
theorem dL_refuses_487 : decode cL_refuses 487 = .ok (.ldc 15, 2) := by decide +kernel
theorem dL_refuses_489 : decode cL_refuses 489 = .ok (.if_icmp .ne 219, 3) := by decide +kernel
theorem dL_refuses_492 : decode cL_refuses 492 = .ok (.aload_n 0, 1) := by decide +kernel
theorem dL_refuses_493 : decode cL_refuses 493 = .ok (.bipush 14, 2) := by decide +kernel
theorem dL_refuses_495 : decode cL_refuses 495 = .ok (.iload 6, 2) := by decide +kernel
theorem dL_refuses_497 : decode cL_refuses 497 = .ok (.iconst 0, 1) := by decide +kernel
theorem dL_refuses_498 : decode cL_refuses 498 = .ok (.iconst 0, 1) := by decide +kernel
theorem dL_refuses_499 : decode cL_refuses 499 = .ok (.invokestatic 172, 3) := by decide +kernel
theorem dL_refuses_502 : decode cL_refuses 502 = .ok (.ldc 22, 2) := by decide +kernel
theorem dL_refuses_504 : decode cL_refuses 504 = .ok (.if_icmp .ne 204, 3) := by decide +kernel
theorem dL_refuses_507 : decode cL_refuses 507 = .ok (.aload_n 0, 1) := by decide +kernel
theorem dL_refuses_508 : decode cL_refuses 508 = .ok (.bipush 16, 2) := by decide +kernel
theorem dL_refuses_510 : decode cL_refuses 510 = .ok (.iload 6, 2) := by decide +kernel
theorem dL_refuses_512 : decode cL_refuses 512 = .ok (.iconst 0, 1) := by decide +kernel
theorem dL_refuses_513 : decode cL_refuses 513 = .ok (.iconst 0, 1) := by decide +kernel
theorem dL_refuses_514 : decode cL_refuses 514 = .ok (.invokestatic 172, 3) := by decide +kernel
theorem dL_refuses_517 : decode cL_refuses 517 = .ok (.ldc 22, 2) := by decide +kernel
theorem dL_refuses_519 : decode cL_refuses 519 = .ok (.if_icmp .ne 189, 3) := by decide +kernel
theorem dL_refuses_522 : decode cL_refuses 522 = .ok (.aload_n 0, 1) := by decide +kernel
theorem dL_refuses_523 : decode cL_refuses 523 = .ok (.bipush 17, 2) := by decide +kernel
theorem dL_refuses_525 : decode cL_refuses 525 = .ok (.iconst (-1), 1) := by decide +kernel
theorem dL_refuses_526 : decode cL_refuses 526 = .ok (.iload_n 1, 1) := by decide +kernel
theorem dL_refuses_527 : decode cL_refuses 527 = .ok (.bipush 9, 2) := by decide +kernel
theorem dL_refuses_529 : decode cL_refuses 529 = .ok (.irem, 1) := by decide +kernel
theorem dL_refuses_530 : decode cL_refuses 530 = .ok (.isub, 1) := by decide +kernel
theorem dL_refuses_531 : decode cL_refuses 531 = .ok (.iconst 0, 1) := by decide +kernel
theorem dL_refuses_532 : decode cL_refuses 532 = .ok (.iconst 0, 1) := by decide +kernel
theorem dL_refuses_533 : decode cL_refuses 533 = .ok (.invokestatic 172, 3) := by decide +kernel
theorem dL_refuses_536 : decode cL_refuses 536 = .ok (.ldc 22, 2) := by decide +kernel
theorem dL_refuses_538 : decode cL_refuses 538 = .ok (.if_icmp .ne 170, 3) := by decide +kernel
theorem dL_refuses_541 : decode cL_refuses 541 = .ok (.aload_n 0, 1) := by decide +kernel
theorem dL_refuses_542 : decode cL_refuses 542 = .ok (.bipush 18, 2) := by decide +kernel
theorem dL_refuses_544 : decode cL_refuses 544 = .ok (.iload_n 1, 1) := by decide +kernel
theorem dL_refuses_545 : decode cL_refuses 545 = .ok (.iconst 2, 1) := by decide +kernel
theorem dL_refuses_546 : decode cL_refuses 546 = .ok (.irem, 1) := by decide +kernel
theorem dL_refuses_547 : decode cL_refuses 547 = .ok (.ifCond .ne 7, 3) := by decide +kernel
theorem dL_refuses_550 : decode cL_refuses 550 = .ok (.iconst (-1), 1) := by decide +kernel
theorem dL_refuses_551 : decode cL_refuses 551 = .ok (.goto 9, 3) := by decide +kernel
theorem dL_refuses_554 : decode cL_refuses 554 = .ok (.iconst 5, 1) := by decide +kernel
theorem dL_refuses_555 : decode cL_refuses 555 = .ok (.iload_n 1, 1) := by decide +kernel
theorem dL_refuses_556 : decode cL_refuses 556 = .ok (.bipush 9, 2) := by decide +kernel
theorem dL_refuses_558 : decode cL_refuses 558 = .ok (.irem, 1) := by decide +kernel
theorem dL_refuses_559 : decode cL_refuses 559 = .ok (.iadd, 1) := by decide +kernel
theorem dL_refuses_560 : decode cL_refuses 560 = .ok (.iconst 0, 1) := by decide +kernel
theorem dL_refuses_561 : decode cL_refuses 561 = .ok (.iconst 0, 1) := by decide +kernel
theorem dL_refuses_562 : decode cL_refuses 562 = .ok (.invokestatic 172, 3) := by decide +kernel
theorem dL_refuses_565 : decode cL_refuses 565 = .ok (.ldc 22, 2) := by decide +kernel
theorem dL_refuses_567 : decode cL_refuses 567 = .ok (.if_icmp .ne 141, 3) := by decide +kernel
theorem dL_refuses_570 : decode cL_refuses 570 = .ok (.aload_n 0, 1) := by decide +kernel
theorem dL_refuses_571 : decode cL_refuses 571 = .ok (.bipush 19, 2) := by decide +kernel
theorem dL_refuses_573 : decode cL_refuses 573 = .ok (.iload 5, 2) := by decide +kernel
theorem dL_refuses_575 : decode cL_refuses 575 = .ok (.bipush 9, 2) := by decide +kernel
theorem dL_refuses_577 : decode cL_refuses 577 = .ok (.iconst 0, 1) := by decide +kernel
theorem dL_refuses_578 : decode cL_refuses 578 = .ok (.invokestatic 172, 3) := by decide +kernel
theorem dL_refuses_581 : decode cL_refuses 581 = .ok (.ldc 15, 2) := by decide +kernel
theorem dL_refuses_583 : decode cL_refuses 583 = .ok (.if_icmp .ne 125, 3) := by decide +kernel
theorem dL_refuses_586 : decode cL_refuses 586 = .ok (.aload_n 0, 1) := by decide +kernel
theorem dL_refuses_587 : decode cL_refuses 587 = .ok (.bipush 19, 2) := by decide +kernel
theorem dL_refuses_589 : decode cL_refuses 589 = .ok (.iconst 0, 1) := by decide +kernel
theorem dL_refuses_590 : decode cL_refuses 590 = .ok (.iload_n 1, 1) := by decide +kernel
theorem dL_refuses_591 : decode cL_refuses 591 = .ok (.iconst 2, 1) := by decide +kernel
theorem dL_refuses_592 : decode cL_refuses 592 = .ok (.irem, 1) := by decide +kernel
theorem dL_refuses_593 : decode cL_refuses 593 = .ok (.ifCond .ne 13, 3) := by decide +kernel
theorem dL_refuses_596 : decode cL_refuses 596 = .ok (.bipush (-2), 2) := by decide +kernel
theorem dL_refuses_598 : decode cL_refuses 598 = .ok (.iload_n 1, 1) := by decide +kernel
theorem dL_refuses_599 : decode cL_refuses 599 = .ok (.bipush 9, 2) := by decide +kernel
theorem dL_refuses_601 : decode cL_refuses 601 = .ok (.irem, 1) := by decide +kernel
theorem dL_refuses_602 : decode cL_refuses 602 = .ok (.isub, 1) := by decide +kernel
theorem dL_refuses_603 : decode cL_refuses 603 = .ok (.goto 9, 3) := by decide +kernel
theorem dL_refuses_606 : decode cL_refuses 606 = .ok (.iconst 2, 1) := by decide +kernel
theorem dL_refuses_607 : decode cL_refuses 607 = .ok (.iload_n 1, 1) := by decide +kernel
theorem dL_refuses_608 : decode cL_refuses 608 = .ok (.bipush 9, 2) := by decide +kernel
theorem dL_refuses_610 : decode cL_refuses 610 = .ok (.irem, 1) := by decide +kernel
theorem dL_refuses_611 : decode cL_refuses 611 = .ok (.iadd, 1) := by decide +kernel
theorem dL_refuses_612 : decode cL_refuses 612 = .ok (.iconst 0, 1) := by decide +kernel
theorem dL_refuses_613 : decode cL_refuses 613 = .ok (.invokestatic 172, 3) := by decide +kernel
theorem dL_refuses_616 : decode cL_refuses 616 = .ok (.ldc 22, 2) := by decide +kernel
theorem dL_refuses_618 : decode cL_refuses 618 = .ok (.if_icmp .ne 90, 3) := by decide +kernel
theorem dL_refuses_621 : decode cL_refuses 621 = .ok (.aload_n 0, 1) := by decide +kernel
theorem dL_refuses_622 : decode cL_refuses 622 = .ok (.bipush 20, 2) := by decide +kernel
theorem dL_refuses_624 : decode cL_refuses 624 = .ok (.iconst 2, 1) := by decide +kernel
theorem dL_refuses_625 : decode cL_refuses 625 = .ok (.iload_n 1, 1) := by decide +kernel
theorem dL_refuses_626 : decode cL_refuses 626 = .ok (.bipush 50, 2) := by decide +kernel
theorem dL_refuses_628 : decode cL_refuses 628 = .ok (.irem, 1) := by decide +kernel
theorem dL_refuses_629 : decode cL_refuses 629 = .ok (.iadd, 1) := by decide +kernel
theorem dL_refuses_630 : decode cL_refuses 630 = .ok (.iconst 0, 1) := by decide +kernel
theorem dL_refuses_631 : decode cL_refuses 631 = .ok (.iconst 0, 1) := by decide +kernel
theorem dL_refuses_632 : decode cL_refuses 632 = .ok (.invokestatic 172, 3) := by decide +kernel
theorem dL_refuses_635 : decode cL_refuses 635 = .ok (.ldc 15, 2) := by decide +kernel
theorem dL_refuses_637 : decode cL_refuses 637 = .ok (.if_icmp .ne 71, 3) := by decide +kernel
theorem dL_refuses_640 : decode cL_refuses 640 = .ok (.aload_n 0, 1) := by decide +kernel
theorem dL_refuses_641 : decode cL_refuses 641 = .ok (.bipush 21, 2) := by decide +kernel
theorem dL_refuses_643 : decode cL_refuses 643 = .ok (.iconst (-1), 1) := by decide +kernel
theorem dL_refuses_644 : decode cL_refuses 644 = .ok (.iload_n 1, 1) := by decide +kernel
theorem dL_refuses_645 : decode cL_refuses 645 = .ok (.bipush 9, 2) := by decide +kernel
theorem dL_refuses_647 : decode cL_refuses 647 = .ok (.irem, 1) := by decide +kernel
theorem dL_refuses_648 : decode cL_refuses 648 = .ok (.isub, 1) := by decide +kernel
theorem dL_refuses_649 : decode cL_refuses 649 = .ok (.iconst 0, 1) := by decide +kernel
theorem dL_refuses_650 : decode cL_refuses 650 = .ok (.iconst 0, 1) := by decide +kernel
theorem dL_refuses_651 : decode cL_refuses 651 = .ok (.invokestatic 172, 3) := by decide +kernel
theorem dL_refuses_654 : decode cL_refuses 654 = .ok (.ldc 15, 2) := by decide +kernel
theorem dL_refuses_656 : decode cL_refuses 656 = .ok (.if_icmp .ne 52, 3) := by decide +kernel
theorem dL_refuses_659 : decode cL_refuses 659 = .ok (.aload_n 0, 1) := by decide +kernel
theorem dL_refuses_660 : decode cL_refuses 660 = .ok (.iconst 0, 1) := by decide +kernel
theorem dL_refuses_661 : decode cL_refuses 661 = .ok (.lconst 0, 1) := by decide +kernel
theorem dL_refuses_662 : decode cL_refuses 662 = .ok (.invokestatic 180, 3) := by decide +kernel
theorem dL_refuses_665 : decode cL_refuses 665 = .ok (.ldc 22, 2) := by decide +kernel
theorem dL_refuses_667 : decode cL_refuses 667 = .ok (.if_icmp .ne 41, 3) := by decide +kernel
theorem dL_refuses_670 : decode cL_refuses 670 = .ok (.aload_n 0, 1) := by decide +kernel
theorem dL_refuses_671 : decode cL_refuses 671 = .ok (.iconst 1, 1) := by decide +kernel
theorem dL_refuses_672 : decode cL_refuses 672 = .ok (.ldc2_w 184, 3) := by decide +kernel
theorem dL_refuses_675 : decode cL_refuses 675 = .ok (.iload_n 1, 1) := by decide +kernel
theorem dL_refuses_676 : decode cL_refuses 676 = .ok (.i2l, 1) := by decide +kernel
theorem dL_refuses_677 : decode cL_refuses 677 = .ok (.ladd, 1) := by decide +kernel
theorem dL_refuses_678 : decode cL_refuses 678 = .ok (.invokestatic 180, 3) := by decide +kernel
theorem dL_refuses_681 : decode cL_refuses 681 = .ok (.ldc 22, 2) := by decide +kernel
theorem dL_refuses_683 : decode cL_refuses 683 = .ok (.if_icmp .ne 25, 3) := by decide +kernel
theorem dL_refuses_686 : decode cL_refuses 686 = .ok (.aload_n 0, 1) := by decide +kernel
theorem dL_refuses_687 : decode cL_refuses 687 = .ok (.iload_n 1, 1) := by decide +kernel
theorem dL_refuses_688 : decode cL_refuses 688 = .ok (.i2l, 1) := by decide +kernel
theorem dL_refuses_689 : decode cL_refuses 689 = .ok (.bipush 61, 2) := by decide +kernel
theorem dL_refuses_691 : decode cL_refuses 691 = .ok (.iload_n 1, 1) := by decide +kernel
theorem dL_refuses_692 : decode cL_refuses 692 = .ok (.bipush 9, 2) := by decide +kernel
theorem dL_refuses_694 : decode cL_refuses 694 = .ok (.irem, 1) := by decide +kernel
theorem dL_refuses_695 : decode cL_refuses 695 = .ok (.iadd, 1) := by decide +kernel
theorem dL_refuses_696 : decode cL_refuses 696 = .ok (.invokestatic 186, 3) := by decide +kernel
theorem dL_refuses_699 : decode cL_refuses 699 = .ok (.ldc 22, 2) := by decide +kernel
theorem dL_refuses_701 : decode cL_refuses 701 = .ok (.if_icmp .ne 7, 3) := by decide +kernel
theorem dL_refuses_704 : decode cL_refuses 704 = .ok (.iconst 1, 1) := by decide +kernel
theorem dL_refuses_705 : decode cL_refuses 705 = .ok (.goto 4, 3) := by decide +kernel
theorem dL_refuses_708 : decode cL_refuses 708 = .ok (.iconst 0, 1) := by decide +kernel
theorem dL_refuses_709 : decode cL_refuses 709 = .ok (.istore 7, 2) := by decide +kernel
theorem dL_refuses_711 : decode cL_refuses 711 = .ok (.iload 7, 2) := by decide +kernel
theorem dL_refuses_713 : decode cL_refuses 713 = .ok (.ifCond .eq 27, 3) := by decide +kernel
theorem dL_refuses_716 : decode cL_refuses 716 = .ok (.iload_n 2, 1) := by decide +kernel
theorem dL_refuses_717 : decode cL_refuses 717 = .ok (.bipush 16, 2) := by decide +kernel
theorem dL_refuses_719 : decode cL_refuses 719 = .ok (.if_icmp .lt 17, 3) := by decide +kernel
theorem dL_refuses_722 : decode cL_refuses 722 = .ok (.aload_n 0, 1) := by decide +kernel
theorem dL_refuses_723 : decode cL_refuses 723 = .ok (.bipush 7, 2) := by decide +kernel
theorem dL_refuses_725 : decode cL_refuses 725 = .ok (.iconst 0, 1) := by decide +kernel
theorem dL_refuses_726 : decode cL_refuses 726 = .ok (.iconst 1, 1) := by decide +kernel
theorem dL_refuses_727 : decode cL_refuses 727 = .ok (.iconst 0, 1) := by decide +kernel
theorem dL_refuses_728 : decode cL_refuses 728 = .ok (.invokestatic 172, 3) := by decide +kernel
theorem dL_refuses_731 : decode cL_refuses 731 = .ok (.ldc 33, 2) := by decide +kernel
theorem dL_refuses_733 : decode cL_refuses 733 = .ok (.if_icmp .ne 7, 3) := by decide +kernel
theorem dL_refuses_736 : decode cL_refuses 736 = .ok (.iconst 1, 1) := by decide +kernel
theorem dL_refuses_737 : decode cL_refuses 737 = .ok (.goto 4, 3) := by decide +kernel
theorem dL_refuses_740 : decode cL_refuses 740 = .ok (.iconst 0, 1) := by decide +kernel
theorem dL_refuses_741 : decode cL_refuses 741 = .ok (.ireturn, 1) := by decide +kernel
theorem dL_holds_0 : decode cL_holds 0 = .ok (.aload_n 0, 1) := by decide +kernel
theorem dL_holds_1 : decode cL_holds 1 = .ok (.iconst 2, 1) := by decide +kernel
theorem dL_holds_2 : decode cL_holds 2 = .ok (.iconst 0, 1) := by decide +kernel
theorem dL_holds_3 : decode cL_holds 3 = .ok (.iconst 0, 1) := by decide +kernel
theorem dL_holds_4 : decode cL_holds 4 = .ok (.iconst 0, 1) := by decide +kernel
theorem dL_holds_5 : decode cL_holds 5 = .ok (.invokestatic 172, 3) := by decide +kernel
theorem dL_holds_8 : decode cL_holds 8 = .ok (.istore_n 1, 1) := by decide +kernel
theorem dL_holds_9 : decode cL_holds 9 = .ok (.aload_n 0, 1) := by decide +kernel
theorem dL_holds_10 : decode cL_holds 10 = .ok (.iconst 2, 1) := by decide +kernel
theorem dL_holds_11 : decode cL_holds 11 = .ok (.iconst 3, 1) := by decide +kernel
theorem dL_holds_12 : decode cL_holds 12 = .ok (.iconst 0, 1) := by decide +kernel
theorem dL_holds_13 : decode cL_holds 13 = .ok (.iconst 0, 1) := by decide +kernel
theorem dL_holds_14 : decode cL_holds 14 = .ok (.invokestatic 172, 3) := by decide +kernel
theorem dL_holds_17 : decode cL_holds 17 = .ok (.istore_n 2, 1) := by decide +kernel
theorem dL_holds_18 : decode cL_holds 18 = .ok (.aload_n 0, 1) := by decide +kernel
theorem dL_holds_19 : decode cL_holds 19 = .ok (.iconst 2, 1) := by decide +kernel
theorem dL_holds_20 : decode cL_holds 20 = .ok (.bipush 9, 2) := by decide +kernel
theorem dL_holds_22 : decode cL_holds 22 = .ok (.iconst 0, 1) := by decide +kernel
theorem dL_holds_23 : decode cL_holds 23 = .ok (.iconst 0, 1) := by decide +kernel
theorem dL_holds_24 : decode cL_holds 24 = .ok (.invokestatic 172, 3) := by decide +kernel
theorem dL_holds_27 : decode cL_holds 27 = .ok (.istore_n 3, 1) := by decide +kernel
theorem dL_holds_28 : decode cL_holds 28 = .ok (.aload_n 0, 1) := by decide +kernel
theorem dL_holds_29 : decode cL_holds 29 = .ok (.iconst 2, 1) := by decide +kernel
theorem dL_holds_30 : decode cL_holds 30 = .ok (.iconst 1, 1) := by decide +kernel
theorem dL_holds_31 : decode cL_holds 31 = .ok (.iconst 0, 1) := by decide +kernel
theorem dL_holds_32 : decode cL_holds 32 = .ok (.iconst 0, 1) := by decide +kernel
theorem dL_holds_33 : decode cL_holds 33 = .ok (.invokestatic 172, 3) := by decide +kernel
theorem dL_holds_36 : decode cL_holds 36 = .ok (.istore 4, 2) := by decide +kernel
theorem dL_holds_38 : decode cL_holds 38 = .ok (.iload_n 1, 1) := by decide +kernel
theorem dL_holds_39 : decode cL_holds 39 = .ok (.bipush 16, 2) := by decide +kernel
theorem dL_holds_41 : decode cL_holds 41 = .ok (.if_icmp .gt 32, 3) := by decide +kernel
theorem dL_holds_44 : decode cL_holds 44 = .ok (.iload_n 2, 1) := by decide +kernel
theorem dL_holds_45 : decode cL_holds 45 = .ok (.aload_n 0, 1) := by decide +kernel
theorem dL_holds_46 : decode cL_holds 46 = .ok (.iconst 2, 1) := by decide +kernel
theorem dL_holds_47 : decode cL_holds 47 = .ok (.iconst 2, 1) := by decide +kernel
theorem dL_holds_48 : decode cL_holds 48 = .ok (.iconst 0, 1) := by decide +kernel
theorem dL_holds_49 : decode cL_holds 49 = .ok (.iconst 0, 1) := by decide +kernel
theorem dL_holds_50 : decode cL_holds 50 = .ok (.invokestatic 172, 3) := by decide +kernel
theorem dL_holds_53 : decode cL_holds 53 = .ok (.iconst 1, 1) := by decide +kernel
theorem dL_holds_54 : decode cL_holds 54 = .ok (.iadd, 1) := by decide +kernel
theorem dL_holds_55 : decode cL_holds 55 = .ok (.if_icmp .ne 18, 3) := by decide +kernel
theorem dL_holds_58 : decode cL_holds 58 = .ok (.iload 4, 2) := by decide +kernel
theorem dL_holds_60 : decode cL_holds 60 = .ok (.ifCond .lt 13, 3) := by decide +kernel
theorem dL_holds_63 : decode cL_holds 63 = .ok (.iload 4, 2) := by decide +kernel
theorem dL_holds_65 : decode cL_holds 65 = .ok (.iload_n 1, 1) := by decide +kernel
theorem dL_holds_66 : decode cL_holds 66 = .ok (.if_icmp .ge 7, 3) := by decide +kernel
theorem dL_holds_69 : decode cL_holds 69 = .ok (.iconst 1, 1) := by decide +kernel
theorem dL_holds_70 : decode cL_holds 70 = .ok (.goto 4, 3) := by decide +kernel
theorem dL_holds_73 : decode cL_holds 73 = .ok (.iconst 0, 1) := by decide +kernel
theorem dL_holds_74 : decode cL_holds 74 = .ok (.istore 5, 2) := by decide +kernel
theorem dL_holds_76 : decode cL_holds 76 = .ok (.iconst 0, 1) := by decide +kernel
theorem dL_holds_77 : decode cL_holds 77 = .ok (.istore 6, 2) := by decide +kernel
theorem dL_holds_79 : decode cL_holds 79 = .ok (.iconst 0, 1) := by decide +kernel
theorem dL_holds_80 : decode cL_holds 80 = .ok (.istore 7, 2) := by decide +kernel
theorem dL_holds_82 : decode cL_holds 82 = .ok (.iconst 0, 1) := by decide +kernel
theorem dL_holds_83 : decode cL_holds 83 = .ok (.istore 8, 2) := by decide +kernel
theorem dL_holds_85 : decode cL_holds 85 = .ok (.iconst 0, 1) := by decide +kernel
theorem dL_holds_86 : decode cL_holds 86 = .ok (.istore 9, 2) := by decide +kernel
theorem dL_holds_88 : decode cL_holds 88 = .ok (.iload 9, 2) := by decide +kernel
theorem dL_holds_90 : decode cL_holds 90 = .ok (.iload_n 2, 1) := by decide +kernel
theorem dL_holds_91 : decode cL_holds 91 = .ok (.if_icmp .ge 286, 3) := by decide +kernel
theorem dL_holds_94 : decode cL_holds 94 = .ok (.iload 5, 2) := by decide +kernel
theorem dL_holds_96 : decode cL_holds 96 = .ok (.ifCond .eq 281, 3) := by decide +kernel
theorem dL_holds_99 : decode cL_holds 99 = .ok (.aload_n 0, 1) := by decide +kernel
theorem dL_holds_100 : decode cL_holds 100 = .ok (.iconst 5, 1) := by decide +kernel
theorem dL_holds_101 : decode cL_holds 101 = .ok (.iload 9, 2) := by decide +kernel
theorem dL_holds_103 : decode cL_holds 103 = .ok (.iconst 0, 1) := by decide +kernel
theorem dL_holds_104 : decode cL_holds 104 = .ok (.iconst 0, 1) := by decide +kernel
theorem dL_holds_105 : decode cL_holds 105 = .ok (.invokestatic 172, 3) := by decide +kernel
theorem dL_holds_108 : decode cL_holds 108 = .ok (.istore 10, 2) := by decide +kernel
theorem dL_holds_110 : decode cL_holds 110 = .ok (.aload_n 0, 1) := by decide +kernel
theorem dL_holds_111 : decode cL_holds 111 = .ok (.iconst 5, 1) := by decide +kernel
theorem dL_holds_112 : decode cL_holds 112 = .ok (.iload 9, 2) := by decide +kernel
theorem dL_holds_114 : decode cL_holds 114 = .ok (.iconst 1, 1) := by decide +kernel
theorem dL_holds_115 : decode cL_holds 115 = .ok (.iconst 0, 1) := by decide +kernel
theorem dL_holds_116 : decode cL_holds 116 = .ok (.invokestatic 172, 3) := by decide +kernel
theorem dL_holds_119 : decode cL_holds 119 = .ok (.istore 11, 2) := by decide +kernel
theorem dL_holds_121 : decode cL_holds 121 = .ok (.aload_n 0, 1) := by decide +kernel
theorem dL_holds_122 : decode cL_holds 122 = .ok (.iconst 5, 1) := by decide +kernel
theorem dL_holds_123 : decode cL_holds 123 = .ok (.iload 9, 2) := by decide +kernel
theorem dL_holds_125 : decode cL_holds 125 = .ok (.iconst 2, 1) := by decide +kernel
theorem dL_holds_126 : decode cL_holds 126 = .ok (.iconst 0, 1) := by decide +kernel
theorem dL_holds_127 : decode cL_holds 127 = .ok (.invokestatic 172, 3) := by decide +kernel
theorem dL_holds_130 : decode cL_holds 130 = .ok (.istore 12, 2) := by decide +kernel
theorem dL_holds_132 : decode cL_holds 132 = .ok (.iconst 0, 1) := by decide +kernel
theorem dL_holds_133 : decode cL_holds 133 = .ok (.istore 13, 2) := by decide +kernel
theorem dL_holds_135 : decode cL_holds 135 = .ok (.iload 10, 2) := by decide +kernel
theorem dL_holds_137 : decode cL_holds 137 = .ok (.iload 6, 2) := by decide +kernel
theorem dL_holds_139 : decode cL_holds 139 = .ok (.if_icmp .ne 24, 3) := by decide +kernel
theorem dL_holds_142 : decode cL_holds 142 = .ok (.iload 11, 2) := by decide +kernel
theorem dL_holds_144 : decode cL_holds 144 = .ok (.ifCond .le 19, 3) := by decide +kernel
theorem dL_holds_147 : decode cL_holds 147 = .ok (.iload 12, 2) := by decide +kernel
theorem dL_holds_149 : decode cL_holds 149 = .ok (.iconst (-1), 1) := by decide +kernel
theorem dL_holds_150 : decode cL_holds 150 = .ok (.if_icmp .lt 13, 3) := by decide +kernel
theorem dL_holds_153 : decode cL_holds 153 = .ok (.iload 12, 2) := by decide +kernel
theorem dL_holds_155 : decode cL_holds 155 = .ok (.iconst 2, 1) := by decide +kernel
theorem dL_holds_156 : decode cL_holds 156 = .ok (.if_icmp .ge 7, 3) := by decide +kernel
theorem dL_holds_159 : decode cL_holds 159 = .ok (.iconst 1, 1) := by decide +kernel
theorem dL_holds_160 : decode cL_holds 160 = .ok (.goto 4, 3) := by decide +kernel
theorem dL_holds_163 : decode cL_holds 163 = .ok (.iconst 0, 1) := by decide +kernel
theorem dL_holds_164 : decode cL_holds 164 = .ok (.istore 5, 2) := by decide +kernel
theorem dL_holds_166 : decode cL_holds 166 = .ok (.iload 10, 2) := by decide +kernel
theorem dL_holds_168 : decode cL_holds 168 = .ok (.istore 14, 2) := by decide +kernel
theorem dL_holds_170 : decode cL_holds 170 = .ok (.iload 14, 2) := by decide +kernel
theorem dL_holds_172 : decode cL_holds 172 = .ok (.iload 10, 2) := by decide +kernel
theorem dL_holds_174 : decode cL_holds 174 = .ok (.iload 11, 2) := by decide +kernel
theorem dL_holds_176 : decode cL_holds 176 = .ok (.iadd, 1) := by decide +kernel
theorem dL_holds_177 : decode cL_holds 177 = .ok (.if_icmp .ge 137, 3) := by decide +kernel
theorem dL_holds_180 : decode cL_holds 180 = .ok (.iload 5, 2) := by decide +kernel
theorem dL_holds_182 : decode cL_holds 182 = .ok (.ifCond .eq 132, 3) := by decide +kernel
theorem dL_holds_185 : decode cL_holds 185 = .ok (.aload_n 0, 1) := by decide +kernel
theorem dL_holds_186 : decode cL_holds 186 = .ok (.iconst 4, 1) := by decide +kernel
theorem dL_holds_187 : decode cL_holds 187 = .ok (.iload 14, 2) := by decide +kernel
theorem dL_holds_189 : decode cL_holds 189 = .ok (.iconst 0, 1) := by decide +kernel
theorem dL_holds_190 : decode cL_holds 190 = .ok (.iconst 0, 1) := by decide +kernel
theorem dL_holds_191 : decode cL_holds 191 = .ok (.invokestatic 172, 3) := by decide +kernel
theorem dL_holds_194 : decode cL_holds 194 = .ok (.istore 15, 2) := by decide +kernel
theorem dL_holds_196 : decode cL_holds 196 = .ok (.iload 13, 2) := by decide +kernel
theorem dL_holds_198 : decode cL_holds 198 = .ok (.iload_n 3, 1) := by decide +kernel
theorem dL_holds_199 : decode cL_holds 199 = .ok (.ifCond .ne 7, 3) := by decide +kernel
theorem dL_holds_202 : decode cL_holds 202 = .ok (.iconst 1, 1) := by decide +kernel
theorem dL_holds_203 : decode cL_holds 203 = .ok (.goto 12, 3) := by decide +kernel
theorem dL_holds_206 : decode cL_holds 206 = .ok (.aload_n 0, 1) := by decide +kernel
theorem dL_holds_207 : decode cL_holds 207 = .ok (.iconst 3, 1) := by decide +kernel
theorem dL_holds_208 : decode cL_holds 208 = .ok (.iload 15, 2) := by decide +kernel
theorem dL_holds_210 : decode cL_holds 210 = .ok (.iconst 1, 1) := by decide +kernel
theorem dL_holds_211 : decode cL_holds 211 = .ok (.iconst 0, 1) := by decide +kernel
theorem dL_holds_212 : decode cL_holds 212 = .ok (.invokestatic 172, 3) := by decide +kernel
theorem dL_holds_215 : decode cL_holds 215 = .ok (.iadd, 1) := by decide +kernel
theorem dL_holds_216 : decode cL_holds 216 = .ok (.istore 13, 2) := by decide +kernel
theorem dL_holds_218 : decode cL_holds 218 = .ok (.iload 15, 2) := by decide +kernel
theorem dL_holds_220 : decode cL_holds 220 = .ok (.iload 4, 2) := by decide +kernel
theorem dL_holds_222 : decode cL_holds 222 = .ok (.iload 14, 2) := by decide +kernel
theorem dL_holds_224 : decode cL_holds 224 = .ok (.iadd, 1) := by decide +kernel
theorem dL_holds_225 : decode cL_holds 225 = .ok (.iload_n 1, 1) := by decide +kernel
theorem dL_holds_226 : decode cL_holds 226 = .ok (.irem, 1) := by decide +kernel
theorem dL_holds_227 : decode cL_holds 227 = .ok (.if_icmp .ne 78, 3) := by decide +kernel
theorem dL_holds_230 : decode cL_holds 230 = .ok (.aload_n 0, 1) := by decide +kernel
theorem dL_holds_231 : decode cL_holds 231 = .ok (.iconst 3, 1) := by decide +kernel
theorem dL_holds_232 : decode cL_holds 232 = .ok (.iload 15, 2) := by decide +kernel
theorem dL_holds_234 : decode cL_holds 234 = .ok (.iconst 2, 1) := by decide +kernel
theorem dL_holds_235 : decode cL_holds 235 = .ok (.iconst 0, 1) := by decide +kernel
theorem dL_holds_236 : decode cL_holds 236 = .ok (.invokestatic 172, 3) := by decide +kernel
theorem dL_holds_239 : decode cL_holds 239 = .ok (.iload 14, 2) := by decide +kernel
theorem dL_holds_241 : decode cL_holds 241 = .ok (.if_icmp .ne 64, 3) := by decide +kernel
theorem dL_holds_244 : decode cL_holds 244 = .ok (.aload_n 0, 1) := by decide +kernel
theorem dL_holds_245 : decode cL_holds 245 = .ok (.iconst 4, 1) := by decide +kernel
theorem dL_holds_246 : decode cL_holds 246 = .ok (.iload 14, 2) := by decide +kernel
theorem dL_holds_248 : decode cL_holds 248 = .ok (.iconst 1, 1) := by decide +kernel
theorem dL_holds_249 : decode cL_holds 249 = .ok (.iconst 0, 1) := by decide +kernel
theorem dL_holds_250 : decode cL_holds 250 = .ok (.invokestatic 172, 3) := by decide +kernel
theorem dL_holds_253 : decode cL_holds 253 = .ok (.iload 12, 2) := by decide +kernel
theorem dL_holds_255 : decode cL_holds 255 = .ok (.if_icmp .ne 50, 3) := by decide +kernel
theorem dL_holds_258 : decode cL_holds 258 = .ok (.aload_n 0, 1) := by decide +kernel
theorem dL_holds_259 : decode cL_holds 259 = .ok (.iconst 4, 1) := by decide +kernel
theorem dL_holds_260 : decode cL_holds 260 = .ok (.iload 14, 2) := by decide +kernel
theorem dL_holds_262 : decode cL_holds 262 = .ok (.iconst 2, 1) := by decide +kernel
theorem dL_holds_263 : decode cL_holds 263 = .ok (.iconst 0, 1) := by decide +kernel
theorem dL_holds_264 : decode cL_holds 264 = .ok (.invokestatic 172, 3) := by decide +kernel
theorem dL_holds_267 : decode cL_holds 267 = .ok (.iload 9, 2) := by decide +kernel
theorem dL_holds_269 : decode cL_holds 269 = .ok (.if_icmp .ne 36, 3) := by decide +kernel
theorem dL_holds_272 : decode cL_holds 272 = .ok (.aload_n 0, 1) := by decide +kernel
theorem dL_holds_273 : decode cL_holds 273 = .ok (.iconst 4, 1) := by decide +kernel
theorem dL_holds_274 : decode cL_holds 274 = .ok (.iload 14, 2) := by decide +kernel
theorem dL_holds_276 : decode cL_holds 276 = .ok (.iconst 3, 1) := by decide +kernel
theorem dL_holds_277 : decode cL_holds 277 = .ok (.iconst 0, 1) := by decide +kernel
theorem dL_holds_278 : decode cL_holds 278 = .ok (.invokestatic 172, 3) := by decide +kernel
theorem dL_holds_281 : decode cL_holds 281 = .ok (.iload 14, 2) := by decide +kernel
theorem dL_holds_283 : decode cL_holds 283 = .ok (.iload 10, 2) := by decide +kernel
theorem dL_holds_285 : decode cL_holds 285 = .ok (.if_icmp .ne 12, 3) := by decide +kernel
theorem dL_holds_288 : decode cL_holds 288 = .ok (.iload 14, 2) := by decide +kernel
theorem dL_holds_290 : decode cL_holds 290 = .ok (.ifCond .le 7, 3) := by decide +kernel
theorem dL_holds_293 : decode cL_holds 293 = .ok (.iconst 1, 1) := by decide +kernel
theorem dL_holds_294 : decode cL_holds 294 = .ok (.goto 4, 3) := by decide +kernel
theorem dL_holds_297 : decode cL_holds 297 = .ok (.iconst 0, 1) := by decide +kernel
theorem dL_holds_298 : decode cL_holds 298 = .ok (.if_icmp .ne 7, 3) := by decide +kernel
theorem dL_holds_301 : decode cL_holds 301 = .ok (.iconst 1, 1) := by decide +kernel
theorem dL_holds_302 : decode cL_holds 302 = .ok (.goto 4, 3) := by decide +kernel
theorem dL_holds_305 : decode cL_holds 305 = .ok (.iconst 0, 1) := by decide +kernel
theorem dL_holds_306 : decode cL_holds 306 = .ok (.istore 5, 2) := by decide +kernel
theorem dL_holds_308 : decode cL_holds 308 = .ok (.iinc 14 1, 3) := by decide +kernel
theorem dL_holds_311 : decode cL_holds 311 = .ok (.goto (-141), 3) := by decide +kernel
theorem dL_holds_314 : decode cL_holds 314 = .ok (.iload 7, 2) := by decide +kernel
theorem dL_holds_316 : decode cL_holds 316 = .ok (.iload 12, 2) := by decide +kernel
theorem dL_holds_318 : decode cL_holds 318 = .ok (.iconst (-1), 1) := by decide +kernel
theorem dL_holds_319 : decode cL_holds 319 = .ok (.if_icmp .ne 8, 3) := by decide +kernel
theorem dL_holds_322 : decode cL_holds 322 = .ok (.iload 11, 2) := by decide +kernel
theorem dL_holds_324 : decode cL_holds 324 = .ok (.goto 4, 3) := by decide +kernel
theorem dL_holds_327 : decode cL_holds 327 = .ok (.iconst 0, 1) := by decide +kernel
theorem dL_holds_328 : decode cL_holds 328 = .ok (.iadd, 1) := by decide +kernel
theorem dL_holds_329 : decode cL_holds 329 = .ok (.istore 7, 2) := by decide +kernel
theorem dL_holds_331 : decode cL_holds 331 = .ok (.iload 8, 2) := by decide +kernel
theorem dL_holds_333 : decode cL_holds 333 = .ok (.iload 13, 2) := by decide +kernel
theorem dL_holds_335 : decode cL_holds 335 = .ok (.iadd, 1) := by decide +kernel
theorem dL_holds_336 : decode cL_holds 336 = .ok (.istore 8, 2) := by decide +kernel
theorem dL_holds_338 : decode cL_holds 338 = .ok (.iload 5, 2) := by decide +kernel
theorem dL_holds_340 : decode cL_holds 340 = .ok (.ifCond .eq 21, 3) := by decide +kernel
theorem dL_holds_343 : decode cL_holds 343 = .ok (.iload 13, 2) := by decide +kernel
theorem dL_holds_345 : decode cL_holds 345 = .ok (.aload_n 0, 1) := by decide +kernel
theorem dL_holds_346 : decode cL_holds 346 = .ok (.iconst 5, 1) := by decide +kernel
theorem dL_holds_347 : decode cL_holds 347 = .ok (.iload 9, 2) := by decide +kernel
theorem dL_holds_349 : decode cL_holds 349 = .ok (.iconst 3, 1) := by decide +kernel
theorem dL_holds_350 : decode cL_holds 350 = .ok (.iconst 0, 1) := by decide +kernel
theorem dL_holds_351 : decode cL_holds 351 = .ok (.invokestatic 172, 3) := by decide +kernel
theorem dL_holds_354 : decode cL_holds 354 = .ok (.if_icmp .ne 7, 3) := by decide +kernel
theorem dL_holds_357 : decode cL_holds 357 = .ok (.iconst 1, 1) := by decide +kernel
theorem dL_holds_358 : decode cL_holds 358 = .ok (.goto 4, 3) := by decide +kernel
theorem dL_holds_361 : decode cL_holds 361 = .ok (.iconst 0, 1) := by decide +kernel
theorem dL_holds_362 : decode cL_holds 362 = .ok (.istore 5, 2) := by decide +kernel
theorem dL_holds_364 : decode cL_holds 364 = .ok (.iload 6, 2) := by decide +kernel
theorem dL_holds_366 : decode cL_holds 366 = .ok (.iload 11, 2) := by decide +kernel
theorem dL_holds_368 : decode cL_holds 368 = .ok (.iadd, 1) := by decide +kernel
theorem dL_holds_369 : decode cL_holds 369 = .ok (.istore 6, 2) := by decide +kernel
theorem dL_holds_371 : decode cL_holds 371 = .ok (.iinc 9 1, 3) := by decide +kernel
theorem dL_holds_374 : decode cL_holds 374 = .ok (.goto (-286), 3) := by decide +kernel
theorem dL_holds_377 : decode cL_holds 377 = .ok (.iconst 0, 1) := by decide +kernel
theorem dL_holds_378 : decode cL_holds 378 = .ok (.istore 9, 2) := by decide +kernel
theorem dL_holds_380 : decode cL_holds 380 = .ok (.iconst 0, 1) := by decide +kernel
theorem dL_holds_381 : decode cL_holds 381 = .ok (.istore 10, 2) := by decide +kernel
theorem dL_holds_383 : decode cL_holds 383 = .ok (.iconst 0, 1) := by decide +kernel
theorem dL_holds_384 : decode cL_holds 384 = .ok (.istore 11, 2) := by decide +kernel
theorem dL_holds_386 : decode cL_holds 386 = .ok (.iload 11, 2) := by decide +kernel
theorem dL_holds_388 : decode cL_holds 388 = .ok (.iconst 4, 1) := by decide +kernel
theorem dL_holds_389 : decode cL_holds 389 = .ok (.if_icmp .ge 90, 3) := by decide +kernel
theorem dL_holds_392 : decode cL_holds 392 = .ok (.iload 5, 2) := by decide +kernel
theorem dL_holds_394 : decode cL_holds 394 = .ok (.ifCond .eq 85, 3) := by decide +kernel
theorem dL_holds_397 : decode cL_holds 397 = .ok (.aload_n 0, 1) := by decide +kernel
theorem dL_holds_398 : decode cL_holds 398 = .ok (.bipush 6, 2) := by decide +kernel
theorem dL_holds_400 : decode cL_holds 400 = .ok (.iconst 0, 1) := by decide +kernel
theorem dL_holds_401 : decode cL_holds 401 = .ok (.iload 11, 2) := by decide +kernel
theorem dL_holds_403 : decode cL_holds 403 = .ok (.iconst 0, 1) := by decide +kernel
theorem dL_holds_404 : decode cL_holds 404 = .ok (.invokestatic 172, 3) := by decide +kernel
theorem dL_holds_407 : decode cL_holds 407 = .ok (.istore 12, 2) := by decide +kernel
theorem dL_holds_409 : decode cL_holds 409 = .ok (.aload_n 0, 1) := by decide +kernel
theorem dL_holds_410 : decode cL_holds 410 = .ok (.bipush 6, 2) := by decide +kernel
theorem dL_holds_412 : decode cL_holds 412 = .ok (.iconst 1, 1) := by decide +kernel
theorem dL_holds_413 : decode cL_holds 413 = .ok (.iload 11, 2) := by decide +kernel
theorem dL_holds_415 : decode cL_holds 415 = .ok (.iconst 0, 1) := by decide +kernel
theorem dL_holds_416 : decode cL_holds 416 = .ok (.invokestatic 172, 3) := by decide +kernel
theorem dL_holds_419 : decode cL_holds 419 = .ok (.istore 13, 2) := by decide +kernel
theorem dL_holds_421 : decode cL_holds 421 = .ok (.iload 9, 2) := by decide +kernel
theorem dL_holds_423 : decode cL_holds 423 = .ok (.iload 12, 2) := by decide +kernel
theorem dL_holds_425 : decode cL_holds 425 = .ok (.iload 13, 2) := by decide +kernel
theorem dL_holds_427 : decode cL_holds 427 = .ok (.if_icmp .ge 11, 3) := by decide +kernel
theorem dL_holds_430 : decode cL_holds 430 = .ok (.iload 13, 2) := by decide +kernel
theorem dL_holds_432 : decode cL_holds 432 = .ok (.iload 12, 2) := by decide +kernel
theorem dL_holds_434 : decode cL_holds 434 = .ok (.isub, 1) := by decide +kernel
theorem dL_holds_435 : decode cL_holds 435 = .ok (.goto 8, 3) := by decide +kernel
theorem dL_holds_438 : decode cL_holds 438 = .ok (.iload 12, 2) := by decide +kernel
theorem dL_holds_440 : decode cL_holds 440 = .ok (.iload 13, 2) := by decide +kernel
theorem dL_holds_442 : decode cL_holds 442 = .ok (.isub, 1) := by decide +kernel
theorem dL_holds_443 : decode cL_holds 443 = .ok (.iadd, 1) := by decide +kernel
theorem dL_holds_444 : decode cL_holds 444 = .ok (.istore 9, 2) := by decide +kernel
theorem dL_holds_446 : decode cL_holds 446 = .ok (.iload 10, 2) := by decide +kernel
theorem dL_holds_448 : decode cL_holds 448 = .ok (.iload 12, 2) := by decide +kernel
theorem dL_holds_450 : decode cL_holds 450 = .ok (.iload 13, 2) := by decide +kernel
theorem dL_holds_452 : decode cL_holds 452 = .ok (.iadd, 1) := by decide +kernel
theorem dL_holds_453 : decode cL_holds 453 = .ok (.iadd, 1) := by decide +kernel
theorem dL_holds_454 : decode cL_holds 454 = .ok (.istore 10, 2) := by decide +kernel
theorem dL_holds_456 : decode cL_holds 456 = .ok (.iload 12, 2) := by decide +kernel
theorem dL_holds_458 : decode cL_holds 458 = .ok (.ifCond .lt 12, 3) := by decide +kernel
theorem dL_holds_461 : decode cL_holds 461 = .ok (.iload 13, 2) := by decide +kernel
theorem dL_holds_463 : decode cL_holds 463 = .ok (.ifCond .lt 7, 3) := by decide +kernel
theorem dL_holds_466 : decode cL_holds 466 = .ok (.iconst 1, 1) := by decide +kernel
theorem dL_holds_467 : decode cL_holds 467 = .ok (.goto 4, 3) := by decide +kernel
theorem dL_holds_470 : decode cL_holds 470 = .ok (.iconst 0, 1) := by decide +kernel
theorem dL_holds_471 : decode cL_holds 471 = .ok (.istore 5, 2) := by decide +kernel
theorem dL_holds_473 : decode cL_holds 473 = .ok (.iinc 11 1, 3) := by decide +kernel
theorem dL_holds_476 : decode cL_holds 476 = .ok (.goto (-90), 3) := by decide +kernel
theorem dL_holds_479 : decode cL_holds 479 = .ok (.aload_n 0, 1) := by decide +kernel
theorem dL_holds_480 : decode cL_holds 480 = .ok (.bipush 16, 2) := by decide +kernel
theorem dL_holds_482 : decode cL_holds 482 = .ok (.iconst 0, 1) := by decide +kernel
theorem dL_holds_483 : decode cL_holds 483 = .ok (.iconst 0, 1) := by decide +kernel
theorem dL_holds_484 : decode cL_holds 484 = .ok (.iconst 0, 1) := by decide +kernel
theorem dL_holds_485 : decode cL_holds 485 = .ok (.invokestatic 172, 3) := by decide +kernel
theorem dL_holds_488 : decode cL_holds 488 = .ok (.istore 11, 2) := by decide +kernel
theorem dL_holds_490 : decode cL_holds 490 = .ok (.iconst 0, 1) := by decide +kernel
theorem dL_holds_491 : decode cL_holds 491 = .ok (.istore 12, 2) := by decide +kernel
theorem dL_holds_493 : decode cL_holds 493 = .ok (.iconst 0, 1) := by decide +kernel
theorem dL_holds_494 : decode cL_holds 494 = .ok (.istore 13, 2) := by decide +kernel
theorem dL_holds_496 : decode cL_holds 496 = .ok (.iload 13, 2) := by decide +kernel
theorem dL_holds_498 : decode cL_holds 498 = .ok (.bipush 8, 2) := by decide +kernel
theorem dL_holds_500 : decode cL_holds 500 = .ok (.if_icmp .ge 71, 3) := by decide +kernel
theorem dL_holds_503 : decode cL_holds 503 = .ok (.iload 5, 2) := by decide +kernel
theorem dL_holds_505 : decode cL_holds 505 = .ok (.ifCond .eq 66, 3) := by decide +kernel
theorem dL_holds_508 : decode cL_holds 508 = .ok (.aload_n 0, 1) := by decide +kernel
theorem dL_holds_509 : decode cL_holds 509 = .ok (.bipush 17, 2) := by decide +kernel
theorem dL_holds_511 : decode cL_holds 511 = .ok (.iload 13, 2) := by decide +kernel
theorem dL_holds_513 : decode cL_holds 513 = .ok (.iconst 0, 1) := by decide +kernel
theorem dL_holds_514 : decode cL_holds 514 = .ok (.iconst 0, 1) := by decide +kernel
theorem dL_holds_515 : decode cL_holds 515 = .ok (.invokestatic 172, 3) := by decide +kernel
theorem dL_holds_518 : decode cL_holds 518 = .ok (.istore 14, 2) := by decide +kernel
theorem dL_holds_520 : decode cL_holds 520 = .ok (.iload 13, 2) := by decide +kernel
theorem dL_holds_522 : decode cL_holds 522 = .ok (.iload 11, 2) := by decide +kernel
theorem dL_holds_524 : decode cL_holds 524 = .ok (.if_icmp .ge 24, 3) := by decide +kernel
theorem dL_holds_527 : decode cL_holds 527 = .ok (.iload 14, 2) := by decide +kernel
theorem dL_holds_529 : decode cL_holds 529 = .ok (.iload 12, 2) := by decide +kernel
theorem dL_holds_531 : decode cL_holds 531 = .ok (.if_icmp .le 13, 3) := by decide +kernel
theorem dL_holds_534 : decode cL_holds 534 = .ok (.iload 14, 2) := by decide +kernel
theorem dL_holds_536 : decode cL_holds 536 = .ok (.iload_n 1, 1) := by decide +kernel
theorem dL_holds_537 : decode cL_holds 537 = .ok (.if_icmp .ge 7, 3) := by decide +kernel
theorem dL_holds_540 : decode cL_holds 540 = .ok (.iconst 1, 1) := by decide +kernel
theorem dL_holds_541 : decode cL_holds 541 = .ok (.goto 18, 3) := by decide +kernel
theorem dL_holds_544 : decode cL_holds 544 = .ok (.iconst 0, 1) := by decide +kernel
theorem dL_holds_545 : decode cL_holds 545 = .ok (.goto 14, 3) := by decide +kernel
theorem dL_holds_548 : decode cL_holds 548 = .ok (.iload 14, 2) := by decide +kernel
theorem dL_holds_550 : decode cL_holds 550 = .ok (.iconst (-1), 1) := by decide +kernel
theorem dL_holds_551 : decode cL_holds 551 = .ok (.if_icmp .ne 7, 3) := by decide +kernel
theorem dL_holds_554 : decode cL_holds 554 = .ok (.iconst 1, 1) := by decide +kernel
theorem dL_holds_555 : decode cL_holds 555 = .ok (.goto 4, 3) := by decide +kernel
theorem dL_holds_558 : decode cL_holds 558 = .ok (.iconst 0, 1) := by decide +kernel
theorem dL_holds_559 : decode cL_holds 559 = .ok (.istore 5, 2) := by decide +kernel
theorem dL_holds_561 : decode cL_holds 561 = .ok (.iload 14, 2) := by decide +kernel
theorem dL_holds_563 : decode cL_holds 563 = .ok (.istore 12, 2) := by decide +kernel
theorem dL_holds_565 : decode cL_holds 565 = .ok (.iinc 13 1, 3) := by decide +kernel
theorem dL_holds_568 : decode cL_holds 568 = .ok (.goto (-72), 3) := by decide +kernel
theorem dL_holds_571 : decode cL_holds 571 = .ok (.aload_n 0, 1) := by decide +kernel
theorem dL_holds_572 : decode cL_holds 572 = .ok (.bipush 18, 2) := by decide +kernel
theorem dL_holds_574 : decode cL_holds 574 = .ok (.iconst 0, 1) := by decide +kernel
theorem dL_holds_575 : decode cL_holds 575 = .ok (.iconst 0, 1) := by decide +kernel
theorem dL_holds_576 : decode cL_holds 576 = .ok (.iconst 0, 1) := by decide +kernel
theorem dL_holds_577 : decode cL_holds 577 = .ok (.invokestatic 172, 3) := by decide +kernel
theorem dL_holds_580 : decode cL_holds 580 = .ok (.istore 13, 2) := by decide +kernel
theorem dL_holds_582 : decode cL_holds 582 = .ok (.iload 5, 2) := by decide +kernel
theorem dL_holds_584 : decode cL_holds 584 = .ok (.ifCond .eq 14, 3) := by decide +kernel
theorem dL_holds_587 : decode cL_holds 587 = .ok (.iload 13, 2) := by decide +kernel
theorem dL_holds_589 : decode cL_holds 589 = .ok (.iload 8, 2) := by decide +kernel
theorem dL_holds_591 : decode cL_holds 591 = .ok (.if_icmp .ne 7, 3) := by decide +kernel
theorem dL_holds_594 : decode cL_holds 594 = .ok (.iconst 1, 1) := by decide +kernel
theorem dL_holds_595 : decode cL_holds 595 = .ok (.goto 4, 3) := by decide +kernel
theorem dL_holds_598 : decode cL_holds 598 = .ok (.iconst 0, 1) := by decide +kernel
theorem dL_holds_599 : decode cL_holds 599 = .ok (.istore 5, 2) := by decide +kernel
theorem dL_holds_601 : decode cL_holds 601 = .ok (.iconst 1, 1) := by decide +kernel
theorem dL_holds_602 : decode cL_holds 602 = .ok (.istore 14, 2) := by decide +kernel
theorem dL_holds_604 : decode cL_holds 604 = .ok (.iload 14, 2) := by decide +kernel
theorem dL_holds_606 : decode cL_holds 606 = .ok (.iconst 5, 1) := by decide +kernel
theorem dL_holds_607 : decode cL_holds 607 = .ok (.if_icmp .ge 91, 3) := by decide +kernel
theorem dL_holds_610 : decode cL_holds 610 = .ok (.iload 5, 2) := by decide +kernel
theorem dL_holds_612 : decode cL_holds 612 = .ok (.ifCond .eq 86, 3) := by decide +kernel
theorem dL_holds_615 : decode cL_holds 615 = .ok (.aload_n 0, 1) := by decide +kernel
theorem dL_holds_616 : decode cL_holds 616 = .ok (.bipush 18, 2) := by decide +kernel
theorem dL_holds_618 : decode cL_holds 618 = .ok (.iload 14, 2) := by decide +kernel
theorem dL_holds_620 : decode cL_holds 620 = .ok (.iconst 0, 1) := by decide +kernel
theorem dL_holds_621 : decode cL_holds 621 = .ok (.iconst 0, 1) := by decide +kernel
theorem dL_holds_622 : decode cL_holds 622 = .ok (.invokestatic 172, 3) := by decide +kernel
theorem dL_holds_625 : decode cL_holds 625 = .ok (.istore 15, 2) := by decide +kernel
theorem dL_holds_627 : decode cL_holds 627 = .ok (.iload 15, 2) := by decide +kernel
theorem dL_holds_629 : decode cL_holds 629 = .ok (.iload 13, 2) := by decide +kernel
theorem dL_holds_631 : decode cL_holds 631 = .ok (.if_icmp .gt 54, 3) := by decide +kernel
theorem dL_holds_634 : decode cL_holds 634 = .ok (.iload 15, 2) := by decide +kernel
theorem dL_holds_636 : decode cL_holds 636 = .ok (.ifCond .lt 49, 3) := by decide +kernel
theorem dL_holds_639 : decode cL_holds 639 = .ok (.iload 15, 2) := by decide +kernel
theorem dL_holds_641 : decode cL_holds 641 = .ok (.ifCond .ne 7, 3) := by decide +kernel
theorem dL_holds_644 : decode cL_holds 644 = .ok (.iconst 1, 1) := by decide +kernel
theorem dL_holds_645 : decode cL_holds 645 = .ok (.goto 4, 3) := by decide +kernel
theorem dL_holds_648 : decode cL_holds 648 = .ok (.iconst 0, 1) := by decide +kernel
theorem dL_holds_649 : decode cL_holds 649 = .ok (.iload 11, 2) := by decide +kernel
theorem dL_holds_651 : decode cL_holds 651 = .ok (.iconst (-1), 1) := by decide +kernel
theorem dL_holds_652 : decode cL_holds 652 = .ok (.if_icmp .eq 14, 3) := by decide +kernel
theorem dL_holds_655 : decode cL_holds 655 = .ok (.iload 11, 2) := by decide +kernel
theorem dL_holds_657 : decode cL_holds 657 = .ok (.iload 14, 2) := by decide +kernel
theorem dL_holds_659 : decode cL_holds 659 = .ok (.if_icmp .gt 7, 3) := by decide +kernel
theorem dL_holds_662 : decode cL_holds 662 = .ok (.iconst 1, 1) := by decide +kernel
theorem dL_holds_663 : decode cL_holds 663 = .ok (.goto 4, 3) := by decide +kernel
theorem dL_holds_666 : decode cL_holds 666 = .ok (.iconst 0, 1) := by decide +kernel
theorem dL_holds_667 : decode cL_holds 667 = .ok (.if_icmp .ne 18, 3) := by decide +kernel
theorem dL_holds_670 : decode cL_holds 670 = .ok (.iload 15, 2) := by decide +kernel
theorem dL_holds_672 : decode cL_holds 672 = .ok (.iconst 2, 1) := by decide +kernel
theorem dL_holds_673 : decode cL_holds 673 = .ok (.irem, 1) := by decide +kernel
theorem dL_holds_674 : decode cL_holds 674 = .ok (.iload 8, 2) := by decide +kernel
theorem dL_holds_676 : decode cL_holds 676 = .ok (.iconst 2, 1) := by decide +kernel
theorem dL_holds_677 : decode cL_holds 677 = .ok (.irem, 1) := by decide +kernel
theorem dL_holds_678 : decode cL_holds 678 = .ok (.if_icmp .ne 7, 3) := by decide +kernel
theorem dL_holds_681 : decode cL_holds 681 = .ok (.iconst 1, 1) := by decide +kernel
theorem dL_holds_682 : decode cL_holds 682 = .ok (.goto 4, 3) := by decide +kernel
theorem dL_holds_685 : decode cL_holds 685 = .ok (.iconst 0, 1) := by decide +kernel
theorem dL_holds_686 : decode cL_holds 686 = .ok (.istore 5, 2) := by decide +kernel
theorem dL_holds_688 : decode cL_holds 688 = .ok (.iload 15, 2) := by decide +kernel
theorem dL_holds_690 : decode cL_holds 690 = .ok (.istore 13, 2) := by decide +kernel
theorem dL_holds_692 : decode cL_holds 692 = .ok (.iinc 14 1, 3) := by decide +kernel
theorem dL_holds_695 : decode cL_holds 695 = .ok (.goto (-91), 3) := by decide +kernel
theorem dL_holds_698 : decode cL_holds 698 = .ok (.iload 5, 2) := by decide +kernel
theorem dL_holds_700 : decode cL_holds 700 = .ok (.ifCond .eq 185, 3) := by decide +kernel
theorem dL_holds_703 : decode cL_holds 703 = .ok (.iload 6, 2) := by decide +kernel
theorem dL_holds_705 : decode cL_holds 705 = .ok (.iload_n 1, 1) := by decide +kernel
theorem dL_holds_706 : decode cL_holds 706 = .ok (.if_icmp .ne 179, 3) := by decide +kernel
theorem dL_holds_709 : decode cL_holds 709 = .ok (.iload 7, 2) := by decide +kernel
theorem dL_holds_711 : decode cL_holds 711 = .ok (.aload_n 0, 1) := by decide +kernel
theorem dL_holds_712 : decode cL_holds 712 = .ok (.iconst 2, 1) := by decide +kernel
theorem dL_holds_713 : decode cL_holds 713 = .ok (.bipush 7, 2) := by decide +kernel
theorem dL_holds_715 : decode cL_holds 715 = .ok (.iconst 0, 1) := by decide +kernel
theorem dL_holds_716 : decode cL_holds 716 = .ok (.iconst 0, 1) := by decide +kernel
theorem dL_holds_717 : decode cL_holds 717 = .ok (.invokestatic 172, 3) := by decide +kernel
theorem dL_holds_720 : decode cL_holds 720 = .ok (.if_icmp .ne 165, 3) := by decide +kernel
theorem dL_holds_723 : decode cL_holds 723 = .ok (.iload 9, 2) := by decide +kernel
theorem dL_holds_725 : decode cL_holds 725 = .ok (.aload_n 0, 1) := by decide +kernel
theorem dL_holds_726 : decode cL_holds 726 = .ok (.iconst 2, 1) := by decide +kernel
theorem dL_holds_727 : decode cL_holds 727 = .ok (.iconst 4, 1) := by decide +kernel
theorem dL_holds_728 : decode cL_holds 728 = .ok (.iconst 0, 1) := by decide +kernel
theorem dL_holds_729 : decode cL_holds 729 = .ok (.iconst 0, 1) := by decide +kernel
theorem dL_holds_730 : decode cL_holds 730 = .ok (.invokestatic 172, 3) := by decide +kernel
theorem dL_holds_733 : decode cL_holds 733 = .ok (.if_icmp .ne 152, 3) := by decide +kernel
theorem dL_holds_736 : decode cL_holds 736 = .ok (.iload 10, 2) := by decide +kernel
theorem dL_holds_738 : decode cL_holds 738 = .ok (.iload 8, 2) := by decide +kernel
theorem dL_holds_740 : decode cL_holds 740 = .ok (.if_icmp .gt 145, 3) := by decide +kernel
theorem dL_holds_743 : decode cL_holds 743 = .ok (.iload 7, 2) := by decide +kernel
theorem dL_holds_745 : decode cL_holds 745 = .ok (.ifCond .gt 10, 3) := by decide +kernel
theorem dL_holds_748 : decode cL_holds 748 = .ok (.iload 10, 2) := by decide +kernel
theorem dL_holds_750 : decode cL_holds 750 = .ok (.iload 8, 2) := by decide +kernel
theorem dL_holds_752 : decode cL_holds 752 = .ok (.if_icmp .ne 133, 3) := by decide +kernel
theorem dL_holds_755 : decode cL_holds 755 = .ok (.aload_n 0, 1) := by decide +kernel
theorem dL_holds_756 : decode cL_holds 756 = .ok (.iconst 2, 1) := by decide +kernel
theorem dL_holds_757 : decode cL_holds 757 = .ok (.iconst 5, 1) := by decide +kernel
theorem dL_holds_758 : decode cL_holds 758 = .ok (.iconst 0, 1) := by decide +kernel
theorem dL_holds_759 : decode cL_holds 759 = .ok (.iconst 0, 1) := by decide +kernel
theorem dL_holds_760 : decode cL_holds 760 = .ok (.invokestatic 172, 3) := by decide +kernel
theorem dL_holds_763 : decode cL_holds 763 = .ok (.iload 7, 2) := by decide +kernel
theorem dL_holds_765 : decode cL_holds 765 = .ok (.ifCond .ne 12, 3) := by decide +kernel
theorem dL_holds_768 : decode cL_holds 768 = .ok (.iload 9, 2) := by decide +kernel
theorem dL_holds_770 : decode cL_holds 770 = .ok (.ifCond .ne 7, 3) := by decide +kernel
theorem dL_holds_773 : decode cL_holds 773 = .ok (.iconst 1, 1) := by decide +kernel
theorem dL_holds_774 : decode cL_holds 774 = .ok (.goto 4, 3) := by decide +kernel
theorem dL_holds_777 : decode cL_holds 777 = .ok (.iconst 0, 1) := by decide +kernel
theorem dL_holds_778 : decode cL_holds 778 = .ok (.if_icmp .ne 107, 3) := by decide +kernel
theorem dL_holds_781 : decode cL_holds 781 = .ok (.iload 11, 2) := by decide +kernel
theorem dL_holds_783 : decode cL_holds 783 = .ok (.aload_n 0, 1) := by decide +kernel
theorem dL_holds_784 : decode cL_holds 784 = .ok (.bipush 16, 2) := by decide +kernel
theorem dL_holds_786 : decode cL_holds 786 = .ok (.iconst 1, 1) := by decide +kernel
theorem dL_holds_787 : decode cL_holds 787 = .ok (.iconst 0, 1) := by decide +kernel
theorem dL_holds_788 : decode cL_holds 788 = .ok (.iconst 0, 1) := by decide +kernel
theorem dL_holds_789 : decode cL_holds 789 = .ok (.invokestatic 172, 3) := by decide +kernel
theorem dL_holds_792 : decode cL_holds 792 = .ok (.if_icmp .ne 93, 3) := by decide +kernel
theorem dL_holds_795 : decode cL_holds 795 = .ok (.iload 11, 2) := by decide +kernel
theorem dL_holds_797 : decode cL_holds 797 = .ok (.iconst (-1), 1) := by decide +kernel
theorem dL_holds_798 : decode cL_holds 798 = .ok (.if_icmp .lt 87, 3) := by decide +kernel
theorem dL_holds_801 : decode cL_holds 801 = .ok (.iload 11, 2) := by decide +kernel
theorem dL_holds_803 : decode cL_holds 803 = .ok (.bipush 6, 2) := by decide +kernel
theorem dL_holds_805 : decode cL_holds 805 = .ok (.if_icmp .gt 80, 3) := by decide +kernel
theorem dL_holds_808 : decode cL_holds 808 = .ok (.iload 11, 2) := by decide +kernel
theorem dL_holds_810 : decode cL_holds 810 = .ok (.ifCond .eq 75, 3) := by decide +kernel
theorem dL_holds_813 : decode cL_holds 813 = .ok (.aload_n 0, 1) := by decide +kernel
theorem dL_holds_814 : decode cL_holds 814 = .ok (.iconst 2, 1) := by decide +kernel
theorem dL_holds_815 : decode cL_holds 815 = .ok (.bipush 6, 2) := by decide +kernel
theorem dL_holds_817 : decode cL_holds 817 = .ok (.iconst 0, 1) := by decide +kernel
theorem dL_holds_818 : decode cL_holds 818 = .ok (.iconst 0, 1) := by decide +kernel
theorem dL_holds_819 : decode cL_holds 819 = .ok (.invokestatic 172, 3) := by decide +kernel
theorem dL_holds_822 : decode cL_holds 822 = .ok (.ifCond .lt 63, 3) := by decide +kernel
theorem dL_holds_825 : decode cL_holds 825 = .ok (.aload_n 0, 1) := by decide +kernel
theorem dL_holds_826 : decode cL_holds 826 = .ok (.iconst 2, 1) := by decide +kernel
theorem dL_holds_827 : decode cL_holds 827 = .ok (.bipush 6, 2) := by decide +kernel
theorem dL_holds_829 : decode cL_holds 829 = .ok (.iconst 0, 1) := by decide +kernel
theorem dL_holds_830 : decode cL_holds 830 = .ok (.iconst 0, 1) := by decide +kernel
theorem dL_holds_831 : decode cL_holds 831 = .ok (.invokestatic 172, 3) := by decide +kernel
theorem dL_holds_834 : decode cL_holds 834 = .ok (.iconst 2, 1) := by decide +kernel
theorem dL_holds_835 : decode cL_holds 835 = .ok (.if_icmp .ge 50, 3) := by decide +kernel
theorem dL_holds_838 : decode cL_holds 838 = .ok (.aload_n 0, 1) := by decide +kernel
theorem dL_holds_839 : decode cL_holds 839 = .ok (.iconst 2, 1) := by decide +kernel
theorem dL_holds_840 : decode cL_holds 840 = .ok (.iconst 5, 1) := by decide +kernel
theorem dL_holds_841 : decode cL_holds 841 = .ok (.iconst 0, 1) := by decide +kernel
theorem dL_holds_842 : decode cL_holds 842 = .ok (.iconst 0, 1) := by decide +kernel
theorem dL_holds_843 : decode cL_holds 843 = .ok (.invokestatic 172, 3) := by decide +kernel
theorem dL_holds_846 : decode cL_holds 846 = .ok (.ifCond .eq 35, 3) := by decide +kernel
theorem dL_holds_849 : decode cL_holds 849 = .ok (.aload_n 0, 1) := by decide +kernel
theorem dL_holds_850 : decode cL_holds 850 = .ok (.iconst 2, 1) := by decide +kernel
theorem dL_holds_851 : decode cL_holds 851 = .ok (.iconst 2, 1) := by decide +kernel
theorem dL_holds_852 : decode cL_holds 852 = .ok (.iconst 0, 1) := by decide +kernel
theorem dL_holds_853 : decode cL_holds 853 = .ok (.iconst 0, 1) := by decide +kernel
theorem dL_holds_854 : decode cL_holds 854 = .ok (.invokestatic 172, 3) := by decide +kernel
theorem dL_holds_857 : decode cL_holds 857 = .ok (.bipush 6, 2) := by decide +kernel
theorem dL_holds_859 : decode cL_holds 859 = .ok (.if_icmp .gt 22, 3) := by decide +kernel
theorem dL_holds_862 : decode cL_holds 862 = .ok (.iload 11, 2) := by decide +kernel
theorem dL_holds_864 : decode cL_holds 864 = .ok (.iconst (-1), 1) := by decide +kernel
theorem dL_holds_865 : decode cL_holds 865 = .ok (.if_icmp .eq 20, 3) := by decide +kernel
theorem dL_holds_868 : decode cL_holds 868 = .ok (.iload 11, 2) := by decide +kernel
theorem dL_holds_870 : decode cL_holds 870 = .ok (.aload_n 0, 1) := by decide +kernel
theorem dL_holds_871 : decode cL_holds 871 = .ok (.iconst 2, 1) := by decide +kernel
theorem dL_holds_872 : decode cL_holds 872 = .ok (.iconst 2, 1) := by decide +kernel
theorem dL_holds_873 : decode cL_holds 873 = .ok (.iconst 0, 1) := by decide +kernel
theorem dL_holds_874 : decode cL_holds 874 = .ok (.iconst 0, 1) := by decide +kernel
theorem dL_holds_875 : decode cL_holds 875 = .ok (.invokestatic 172, 3) := by decide +kernel
theorem dL_holds_878 : decode cL_holds 878 = .ok (.if_icmp .gt 7, 3) := by decide +kernel
theorem dL_holds_881 : decode cL_holds 881 = .ok (.iconst 1, 1) := by decide +kernel
theorem dL_holds_882 : decode cL_holds 882 = .ok (.goto 4, 3) := by decide +kernel
theorem dL_holds_885 : decode cL_holds 885 = .ok (.iconst 0, 1) := by decide +kernel
theorem dL_holds_886 : decode cL_holds 886 = .ok (.ireturn, 1) := by decide +kernel
