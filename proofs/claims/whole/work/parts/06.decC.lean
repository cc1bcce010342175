theorem dX8_init_0 : decode cX8_init 0 = .ok (.aload_n 0, 1) := by decide +kernel
theorem dX8_init_1 : decode cX8_init 1 = .ok (.invokespecial 1, 3) := by decide +kernel
theorem dX8_init_4 : decode cX8_init 4 = .ok (.aload_n 0, 1) := by decide +kernel
theorem dX8_init_5 : decode cX8_init 5 = .ok (.bipush 120, 2) := by decide +kernel
theorem dX8_init_7 : decode cX8_init 7 = .ok (.newarray .int, 2) := by decide +kernel
theorem dX8_init_9 : decode cX8_init 9 = .ok (.putfield 7, 3) := by decide +kernel
theorem dX8_init_12 : decode cX8_init 12 = .ok (.aload_n 0, 1) := by decide +kernel
theorem dX8_init_13 : decode cX8_init 13 = .ok (.bipush 54, 2) := by decide +kernel
theorem dX8_init_15 : decode cX8_init 15 = .ok (.newarray .int, 2) := by decide +kernel
theorem dX8_init_17 : decode cX8_init 17 = .ok (.putfield 13, 3) := by decide +kernel
theorem dX8_init_20 : decode cX8_init 20 = .ok (.aload_n 0, 1) := by decide +kernel
theorem dX8_init_21 : decode cX8_init 21 = .ok (.bipush 54, 2) := by decide +kernel
theorem dX8_init_23 : decode cX8_init 23 = .ok (.newarray .int, 2) := by decide +kernel
theorem dX8_init_25 : decode cX8_init 25 = .ok (.putfield 16, 3) := by decide +kernel
theorem dX8_init_28 : decode cX8_init 28 = .ok (.aload_n 0, 1) := by decide +kernel
theorem dX8_init_29 : decode cX8_init 29 = .ok (.sipush 756, 3) := by decide +kernel
theorem dX8_init_32 : decode cX8_init 32 = .ok (.newarray .int, 2) := by decide +kernel
theorem dX8_init_34 : decode cX8_init 34 = .ok (.putfield 19, 3) := by decide +kernel
theorem dX8_init_37 : decode cX8_init 37 = .ok (.aload_n 0, 1) := by decide +kernel
theorem dX8_init_38 : decode cX8_init 38 = .ok (.bipush 108, 2) := by decide +kernel
theorem dX8_init_40 : decode cX8_init 40 = .ok (.newarray .int, 2) := by decide +kernel
theorem dX8_init_42 : decode cX8_init 42 = .ok (.putfield 22, 3) := by decide +kernel
theorem dX8_init_45 : decode cX8_init 45 = .ok (.aload_n 0, 1) := by decide +kernel
theorem dX8_init_46 : decode cX8_init 46 = .ok (.iconst 2, 1) := by decide +kernel
theorem dX8_init_47 : decode cX8_init 47 = .ok (.newarray .boolean, 2) := by decide +kernel
theorem dX8_init_49 : decode cX8_init 49 = .ok (.putfield 25, 3) := by decide +kernel
theorem dX8_init_52 : decode cX8_init 52 = .ok (.aload_n 0, 1) := by decide +kernel
theorem dX8_init_53 : decode cX8_init 53 = .ok (.bipush 68, 2) := by decide +kernel
theorem dX8_init_55 : decode cX8_init 55 = .ok (.newarray .int, 2) := by decide +kernel
theorem dX8_init_57 : decode cX8_init 57 = .ok (.putfield 29, 3) := by decide +kernel
theorem dX8_init_60 : decode cX8_init 60 = .ok (.aload_n 0, 1) := by decide +kernel
theorem dX8_init_61 : decode cX8_init 61 = .ok (.bipush 8, 2) := by decide +kernel
theorem dX8_init_63 : decode cX8_init 63 = .ok (.newarray .int, 2) := by decide +kernel
theorem dX8_init_65 : decode cX8_init 65 = .ok (.putfield 32, 3) := by decide +kernel
theorem dX8_init_68 : decode cX8_init 68 = .ok (.aload_n 0, 1) := by decide +kernel
theorem dX8_init_69 : decode cX8_init 69 = .ok (.getfield 13, 3) := by decide +kernel
theorem dX8_init_72 : decode cX8_init 72 = .ok (.invokestatic 35, 3) := by decide +kernel
theorem dX8_init_75 : decode cX8_init 75 = .ok (.return_, 1) := by decide +kernel
theorem dX8_thrown_0 : decode cX8_thrown 0 = .ok (.aload_n 0, 1) := by decide +kernel
theorem dX8_thrown_1 : decode cX8_thrown 1 = .ok (.getfield 39, 3) := by decide +kernel
theorem dX8_thrown_4 : decode cX8_thrown 4 = .ok (.ireturn, 1) := by decide +kernel
theorem dX8_refused_0 : decode cX8_refused 0 = .ok (.aload_n 0, 1) := by decide +kernel
theorem dX8_refused_1 : decode cX8_refused 1 = .ok (.iload_n 1, 1) := by decide +kernel
theorem dX8_refused_2 : decode cX8_refused 2 = .ok (.putfield 39, 3) := by decide +kernel
theorem dX8_refused_5 : decode cX8_refused 5 = .ok (.iload_n 1, 1) := by decide +kernel
theorem dX8_refused_6 : decode cX8_refused 6 = .ok (.ifCond .le 7, 3) := by decide +kernel
theorem dX8_refused_9 : decode cX8_refused 9 = .ok (.iconst 1, 1) := by decide +kernel
theorem dX8_refused_10 : decode cX8_refused 10 = .ok (.goto 4, 3) := by decide +kernel
theorem dX8_refused_13 : decode cX8_refused 13 = .ok (.iconst 0, 1) := by decide +kernel
theorem dX8_refused_14 : decode cX8_refused 14 = .ok (.ireturn, 1) := by decide +kernel
theorem dX8_in_0 : decode cX8_in 0 = .ok (.lload_n 0, 1) := by decide +kernel
theorem dX8_in_1 : decode cX8_in 1 = .ok (.lload_n 2, 1) := by decide +kernel
theorem dX8_in_2 : decode cX8_in 2 = .ok (.lcmp, 1) := by decide +kernel
theorem dX8_in_3 : decode cX8_in 3 = .ok (.ifCond .lt 14, 3) := by decide +kernel
theorem dX8_in_6 : decode cX8_in 6 = .ok (.lload_n 0, 1) := by decide +kernel
theorem dX8_in_7 : decode cX8_in 7 = .ok (.lload 4, 2) := by decide +kernel
theorem dX8_in_9 : decode cX8_in 9 = .ok (.lcmp, 1) := by decide +kernel
theorem dX8_in_10 : decode cX8_in 10 = .ok (.ifCond .gt 7, 3) := by decide +kernel
theorem dX8_in_13 : decode cX8_in 13 = .ok (.iconst 1, 1) := by decide +kernel
theorem dX8_in_14 : decode cX8_in 14 = .ok (.goto 4, 3) := by decide +kernel
theorem dX8_in_17 : decode cX8_in 17 = .ok (.iconst 0, 1) := by decide +kernel
theorem dX8_in_18 : decode cX8_in 18 = .ok (.ireturn, 1) := by decide +kernel
theorem dX8_copyState_0 : decode cX8_copyState 0 = .ok (.iconst 0, 1) := by decide +kernel
theorem dX8_copyState_1 : decode cX8_copyState 1 = .ok (.istore 4, 2) := by decide +kernel
theorem dX8_copyState_3 : decode cX8_copyState 3 = .ok (.iload 4, 2) := by decide +kernel
theorem dX8_copyState_5 : decode cX8_copyState 5 = .ok (.bipush 54, 2) := by decide +kernel
theorem dX8_copyState_7 : decode cX8_copyState 7 = .ok (.if_icmp .ge 21, 3) := by decide +kernel
theorem dX8_copyState_10 : decode cX8_copyState 10 = .ok (.aload_n 2, 1) := by decide +kernel
theorem dX8_copyState_11 : decode cX8_copyState 11 = .ok (.iload_n 3, 1) := by decide +kernel
theorem dX8_copyState_12 : decode cX8_copyState 12 = .ok (.iload 4, 2) := by decide +kernel
theorem dX8_copyState_14 : decode cX8_copyState 14 = .ok (.iadd, 1) := by decide +kernel
theorem dX8_copyState_15 : decode cX8_copyState 15 = .ok (.aload_n 0, 1) := by decide +kernel
theorem dX8_copyState_16 : decode cX8_copyState 16 = .ok (.iload_n 1, 1) := by decide +kernel
theorem dX8_copyState_17 : decode cX8_copyState 17 = .ok (.iload 4, 2) := by decide +kernel
theorem dX8_copyState_19 : decode cX8_copyState 19 = .ok (.iadd, 1) := by decide +kernel
theorem dX8_copyState_20 : decode cX8_copyState 20 = .ok (.iaload, 1) := by decide +kernel
theorem dX8_copyState_21 : decode cX8_copyState 21 = .ok (.iastore, 1) := by decide +kernel
theorem dX8_copyState_22 : decode cX8_copyState 22 = .ok (.iinc 4 1, 3) := by decide +kernel
theorem dX8_copyState_25 : decode cX8_copyState 25 = .ok (.goto (-22), 3) := by decide +kernel
theorem dX8_copyState_28 : decode cX8_copyState 28 = .ok (.return_, 1) := by decide +kernel
theorem dX8_clear_0 : decode cX8_clear 0 = .ok (.iconst 0, 1) := by decide +kernel
theorem dX8_clear_1 : decode cX8_clear 1 = .ok (.istore_n 1, 1) := by decide +kernel
theorem dX8_clear_2 : decode cX8_clear 2 = .ok (.iload_n 1, 1) := by decide +kernel
theorem dX8_clear_3 : decode cX8_clear 3 = .ok (.bipush 54, 2) := by decide +kernel
theorem dX8_clear_5 : decode cX8_clear 5 = .ok (.if_icmp .ge 13, 3) := by decide +kernel
theorem dX8_clear_8 : decode cX8_clear 8 = .ok (.aload_n 0, 1) := by decide +kernel
theorem dX8_clear_9 : decode cX8_clear 9 = .ok (.iload_n 1, 1) := by decide +kernel
theorem dX8_clear_10 : decode cX8_clear 10 = .ok (.iconst 0, 1) := by decide +kernel
theorem dX8_clear_11 : decode cX8_clear 11 = .ok (.iastore, 1) := by decide +kernel
theorem dX8_clear_12 : decode cX8_clear 12 = .ok (.iinc 1 1, 3) := by decide +kernel
theorem dX8_clear_15 : decode cX8_clear 15 = .ok (.goto (-13), 3) := by decide +kernel
theorem dX8_clear_18 : decode cX8_clear 18 = .ok (.aload_n 0, 1) := by decide +kernel
theorem dX8_clear_19 : decode cX8_clear 19 = .ok (.invokestatic 43, 3) := by decide +kernel
theorem dX8_clear_22 : decode cX8_clear 22 = .ok (.return_, 1) := by decide +kernel
theorem dX8_free_0 : decode cX8_free 0 = .ok (.aload_n 0, 1) := by decide +kernel
theorem dX8_free_1 : decode cX8_free 1 = .ok (.iconst 5, 1) := by decide +kernel
theorem dX8_free_2 : decode cX8_free 2 = .ok (.iconst 0, 1) := by decide +kernel
theorem dX8_free_3 : decode cX8_free 3 = .ok (.iastore, 1) := by decide +kernel
theorem dX8_free_4 : decode cX8_free 4 = .ok (.iconst 0, 1) := by decide +kernel
theorem dX8_free_5 : decode cX8_free 5 = .ok (.istore_n 1, 1) := by decide +kernel
theorem dX8_free_6 : decode cX8_free 6 = .ok (.iload_n 1, 1) := by decide +kernel
theorem dX8_free_7 : decode cX8_free 7 = .ok (.bipush 16, 2) := by decide +kernel
theorem dX8_free_9 : decode cX8_free 9 = .ok (.if_icmp .ge 16, 3) := by decide +kernel
theorem dX8_free_12 : decode cX8_free 12 = .ok (.aload_n 0, 1) := by decide +kernel
theorem dX8_free_13 : decode cX8_free 13 = .ok (.bipush 38, 2) := by decide +kernel
theorem dX8_free_15 : decode cX8_free 15 = .ok (.iload_n 1, 1) := by decide +kernel
theorem dX8_free_16 : decode cX8_free 16 = .ok (.iadd, 1) := by decide +kernel
theorem dX8_free_17 : decode cX8_free 17 = .ok (.iconst (-1), 1) := by decide +kernel
theorem dX8_free_18 : decode cX8_free 18 = .ok (.iastore, 1) := by decide +kernel
theorem dX8_free_19 : decode cX8_free 19 = .ok (.iinc 1 1, 3) := by decide +kernel
theorem dX8_free_22 : decode cX8_free 22 = .ok (.goto (-16), 3) := by decide +kernel
theorem dX8_free_25 : decode cX8_free 25 = .ok (.return_, 1) := by decide +kernel
theorem dX8_isJewel_0 : decode cX8_isJewel 0 = .ok (.iload_n 1, 1) := by decide +kernel
theorem dX8_isJewel_1 : decode cX8_isJewel 1 = .ok (.i2l, 1) := by decide +kernel
theorem dX8_isJewel_2 : decode cX8_isJewel 2 = .ok (.lconst 0, 1) := by decide +kernel
theorem dX8_isJewel_3 : decode cX8_isJewel 3 = .ok (.aload_n 0, 1) := by decide +kernel
theorem dX8_isJewel_4 : decode cX8_isJewel 4 = .ok (.iconst 0, 1) := by decide +kernel
theorem dX8_isJewel_5 : decode cX8_isJewel 5 = .ok (.iaload, 1) := by decide +kernel
theorem dX8_isJewel_6 : decode cX8_isJewel 6 = .ok (.iconst 1, 1) := by decide +kernel
theorem dX8_isJewel_7 : decode cX8_isJewel 7 = .ok (.isub, 1) := by decide +kernel
theorem dX8_isJewel_8 : decode cX8_isJewel 8 = .ok (.i2l, 1) := by decide +kernel
theorem dX8_isJewel_9 : decode cX8_isJewel 9 = .ok (.invokestatic 46, 3) := by decide +kernel
theorem dX8_isJewel_12 : decode cX8_isJewel 12 = .ok (.ireturn, 1) := by decide +kernel
theorem dX8_isCutPlace_0 : decode cX8_isCutPlace 0 = .ok (.iload_n 1, 1) := by decide +kernel
theorem dX8_isCutPlace_1 : decode cX8_isCutPlace 1 = .ok (.i2l, 1) := by decide +kernel
theorem dX8_isCutPlace_2 : decode cX8_isCutPlace 2 = .ok (.lconst 1, 1) := by decide +kernel
theorem dX8_isCutPlace_3 : decode cX8_isCutPlace 3 = .ok (.aload_n 0, 1) := by decide +kernel
theorem dX8_isCutPlace_4 : decode cX8_isCutPlace 4 = .ok (.iconst 0, 1) := by decide +kernel
theorem dX8_isCutPlace_5 : decode cX8_isCutPlace 5 = .ok (.iaload, 1) := by decide +kernel
theorem dX8_isCutPlace_6 : decode cX8_isCutPlace 6 = .ok (.iconst 1, 1) := by decide +kernel
theorem dX8_isCutPlace_7 : decode cX8_isCutPlace 7 = .ok (.isub, 1) := by decide +kernel
theorem dX8_isCutPlace_8 : decode cX8_isCutPlace 8 = .ok (.i2l, 1) := by decide +kernel
theorem dX8_isCutPlace_9 : decode cX8_isCutPlace 9 = .ok (.invokestatic 46, 3) := by decide +kernel
theorem dX8_isCutPlace_12 : decode cX8_isCutPlace 12 = .ok (.ireturn, 1) := by decide +kernel
theorem dX8_isOwner_0 : decode cX8_isOwner 0 = .ok (.iload_n 0, 1) := by decide +kernel
theorem dX8_isOwner_1 : decode cX8_isOwner 1 = .ok (.i2l, 1) := by decide +kernel
theorem dX8_isOwner_2 : decode cX8_isOwner 2 = .ok (.ldc2_w 50, 3) := by decide +kernel
theorem dX8_isOwner_5 : decode cX8_isOwner 5 = .ok (.lconst 1, 1) := by decide +kernel
theorem dX8_isOwner_6 : decode cX8_isOwner 6 = .ok (.invokestatic 46, 3) := by decide +kernel
theorem dX8_isOwner_9 : decode cX8_isOwner 9 = .ok (.ireturn, 1) := by decide +kernel
theorem dX8_jewelAt_0 : decode cX8_jewelAt 0 = .ok (.aload_n 0, 1) := by decide +kernel
theorem dX8_jewelAt_1 : decode cX8_jewelAt 1 = .ok (.iconst 1, 1) := by decide +kernel
theorem dX8_jewelAt_2 : decode cX8_jewelAt 2 = .ok (.iaload, 1) := by decide +kernel
theorem dX8_jewelAt_3 : decode cX8_jewelAt 3 = .ok (.iload_n 1, 1) := by decide +kernel
theorem dX8_jewelAt_4 : decode cX8_jewelAt 4 = .ok (.iadd, 1) := by decide +kernel
theorem dX8_jewelAt_5 : decode cX8_jewelAt 5 = .ok (.aload_n 0, 1) := by decide +kernel
theorem dX8_jewelAt_6 : decode cX8_jewelAt 6 = .ok (.iconst 0, 1) := by decide +kernel
theorem dX8_jewelAt_7 : decode cX8_jewelAt 7 = .ok (.iaload, 1) := by decide +kernel
theorem dX8_jewelAt_8 : decode cX8_jewelAt 8 = .ok (.irem, 1) := by decide +kernel
theorem dX8_jewelAt_9 : decode cX8_jewelAt 9 = .ok (.ireturn, 1) := by decide +kernel
theorem dX8_placeOn_0 : decode cX8_placeOn 0 = .ok (.iload_n 1, 1) := by decide +kernel
theorem dX8_placeOn_1 : decode cX8_placeOn 1 = .ok (.aload_n 0, 1) := by decide +kernel
theorem dX8_placeOn_2 : decode cX8_placeOn 2 = .ok (.iconst 1, 1) := by decide +kernel
theorem dX8_placeOn_3 : decode cX8_placeOn 3 = .ok (.iaload, 1) := by decide +kernel
theorem dX8_placeOn_4 : decode cX8_placeOn 4 = .ok (.isub, 1) := by decide +kernel
theorem dX8_placeOn_5 : decode cX8_placeOn 5 = .ok (.aload_n 0, 1) := by decide +kernel
theorem dX8_placeOn_6 : decode cX8_placeOn 6 = .ok (.iconst 0, 1) := by decide +kernel
theorem dX8_placeOn_7 : decode cX8_placeOn 7 = .ok (.iaload, 1) := by decide +kernel
theorem dX8_placeOn_8 : decode cX8_placeOn 8 = .ok (.iadd, 1) := by decide +kernel
theorem dX8_placeOn_9 : decode cX8_placeOn 9 = .ok (.aload_n 0, 1) := by decide +kernel
theorem dX8_placeOn_10 : decode cX8_placeOn 10 = .ok (.iconst 0, 1) := by decide +kernel
theorem dX8_placeOn_11 : decode cX8_placeOn 11 = .ok (.iaload, 1) := by decide +kernel
theorem dX8_placeOn_12 : decode cX8_placeOn 12 = .ok (.irem, 1) := by decide +kernel
theorem dX8_placeOn_13 : decode cX8_placeOn 13 = .ok (.ireturn, 1) := by decide +kernel
theorem dX8_valueOf_0 : decode cX8_valueOf 0 = .ok (.aload_n 0, 1) := by decide +kernel
theorem dX8_valueOf_1 : decode cX8_valueOf 1 = .ok (.iconst 4, 1) := by decide +kernel
theorem dX8_valueOf_2 : decode cX8_valueOf 2 = .ok (.iaload, 1) := by decide +kernel
theorem dX8_valueOf_3 : decode cX8_valueOf 3 = .ok (.ifCond .ne 7, 3) := by decide +kernel
theorem dX8_valueOf_6 : decode cX8_valueOf 6 = .ok (.iconst 1, 1) := by decide +kernel
theorem dX8_valueOf_7 : decode cX8_valueOf 7 = .ok (.goto 9, 3) := by decide +kernel
theorem dX8_valueOf_10 : decode cX8_valueOf 10 = .ok (.aload_n 0, 1) := by decide +kernel
theorem dX8_valueOf_11 : decode cX8_valueOf 11 = .ok (.bipush 22, 2) := by decide +kernel
theorem dX8_valueOf_13 : decode cX8_valueOf 13 = .ok (.iload_n 1, 1) := by decide +kernel
theorem dX8_valueOf_14 : decode cX8_valueOf 14 = .ok (.iadd, 1) := by decide +kernel
theorem dX8_valueOf_15 : decode cX8_valueOf 15 = .ok (.iaload, 1) := by decide +kernel
theorem dX8_valueOf_16 : decode cX8_valueOf 16 = .ok (.ireturn, 1) := by decide +kernel
theorem dX8_isCut_0 : decode cX8_isCut 0 = .ok (.aload_n 0, 1) := by decide +kernel
theorem dX8_isCut_1 : decode cX8_isCut 1 = .ok (.iconst 5, 1) := by decide +kernel
theorem dX8_isCut_2 : decode cX8_isCut 2 = .ok (.iaload, 1) := by decide +kernel
theorem dX8_isCut_3 : decode cX8_isCut 3 = .ok (.iload_n 1, 1) := by decide +kernel
theorem dX8_isCut_4 : decode cX8_isCut 4 = .ok (.ishr, 1) := by decide +kernel
theorem dX8_isCut_5 : decode cX8_isCut 5 = .ok (.iconst 1, 1) := by decide +kernel
theorem dX8_isCut_6 : decode cX8_isCut 6 = .ok (.iand, 1) := by decide +kernel
theorem dX8_isCut_7 : decode cX8_isCut 7 = .ok (.iconst 1, 1) := by decide +kernel
theorem dX8_isCut_8 : decode cX8_isCut 8 = .ok (.if_icmp .ne 7, 3) := by decide +kernel
theorem dX8_isCut_11 : decode cX8_isCut 11 = .ok (.iconst 1, 1) := by decide +kernel
theorem dX8_isCut_12 : decode cX8_isCut 12 = .ok (.goto 4, 3) := by decide +kernel
theorem dX8_isCut_15 : decode cX8_isCut 15 = .ok (.iconst 0, 1) := by decide +kernel
theorem dX8_isCut_16 : decode cX8_isCut 16 = .ok (.ireturn, 1) := by decide +kernel
theorem dX8_bits_0 : decode cX8_bits 0 = .ok (.iconst 0, 1) := by decide +kernel
theorem dX8_bits_1 : decode cX8_bits 1 = .ok (.istore_n 1, 1) := by decide +kernel
theorem dX8_bits_2 : decode cX8_bits 2 = .ok (.iconst 0, 1) := by decide +kernel
theorem dX8_bits_3 : decode cX8_bits 3 = .ok (.istore_n 2, 1) := by decide +kernel
theorem dX8_bits_4 : decode cX8_bits 4 = .ok (.iload_n 2, 1) := by decide +kernel
theorem dX8_bits_5 : decode cX8_bits 5 = .ok (.bipush 16, 2) := by decide +kernel
theorem dX8_bits_7 : decode cX8_bits 7 = .ok (.if_icmp .ge 17, 3) := by decide +kernel
theorem dX8_bits_10 : decode cX8_bits 10 = .ok (.iload_n 1, 1) := by decide +kernel
theorem dX8_bits_11 : decode cX8_bits 11 = .ok (.iload_n 0, 1) := by decide +kernel
theorem dX8_bits_12 : decode cX8_bits 12 = .ok (.iload_n 2, 1) := by decide +kernel
theorem dX8_bits_13 : decode cX8_bits 13 = .ok (.ishr, 1) := by decide +kernel
theorem dX8_bits_14 : decode cX8_bits 14 = .ok (.iconst 1, 1) := by decide +kernel
theorem dX8_bits_15 : decode cX8_bits 15 = .ok (.iand, 1) := by decide +kernel
theorem dX8_bits_16 : decode cX8_bits 16 = .ok (.iadd, 1) := by decide +kernel
theorem dX8_bits_17 : decode cX8_bits 17 = .ok (.istore_n 1, 1) := by decide +kernel
theorem dX8_bits_18 : decode cX8_bits 18 = .ok (.iinc 2 1, 3) := by decide +kernel
theorem dX8_bits_21 : decode cX8_bits 21 = .ok (.goto (-17), 3) := by decide +kernel
theorem dX8_bits_24 : decode cX8_bits 24 = .ok (.iload_n 1, 1) := by decide +kernel
theorem dX8_bits_25 : decode cX8_bits 25 = .ok (.ireturn, 1) := by decide +kernel
theorem dX8_runs_0 : decode cX8_runs 0 = .ok (.aload_n 0, 1) := by decide +kernel
theorem dX8_runs_1 : decode cX8_runs 1 = .ok (.iconst 0, 1) := by decide +kernel
theorem dX8_runs_2 : decode cX8_runs 2 = .ok (.iaload, 1) := by decide +kernel
theorem dX8_runs_3 : decode cX8_runs 3 = .ok (.ifCond .ne 7, 3) := by decide +kernel
theorem dX8_runs_6 : decode cX8_runs 6 = .ok (.iconst 0, 1) := by decide +kernel
theorem dX8_runs_7 : decode cX8_runs 7 = .ok (.goto 11, 3) := by decide +kernel
theorem dX8_runs_10 : decode cX8_runs 10 = .ok (.aload_n 0, 1) := by decide +kernel
theorem dX8_runs_11 : decode cX8_runs 11 = .ok (.iconst 5, 1) := by decide +kernel
theorem dX8_runs_12 : decode cX8_runs 12 = .ok (.iaload, 1) := by decide +kernel
theorem dX8_runs_13 : decode cX8_runs 13 = .ok (.invokestatic 52, 3) := by decide +kernel
theorem dX8_runs_16 : decode cX8_runs 16 = .ok (.iconst 1, 1) := by decide +kernel
theorem dX8_runs_17 : decode cX8_runs 17 = .ok (.iadd, 1) := by decide +kernel
theorem dX8_runs_18 : decode cX8_runs 18 = .ok (.ireturn, 1) := by decide +kernel
theorem dX8_isRun_0 : decode cX8_isRun 0 = .ok (.iload_n 1, 1) := by decide +kernel
theorem dX8_isRun_1 : decode cX8_isRun 1 = .ok (.i2l, 1) := by decide +kernel
theorem dX8_isRun_2 : decode cX8_isRun 2 = .ok (.lconst 0, 1) := by decide +kernel
theorem dX8_isRun_3 : decode cX8_isRun 3 = .ok (.aload_n 0, 1) := by decide +kernel
theorem dX8_isRun_4 : decode cX8_isRun 4 = .ok (.invokestatic 56, 3) := by decide +kernel
theorem dX8_isRun_7 : decode cX8_isRun 7 = .ok (.iconst 1, 1) := by decide +kernel
theorem dX8_isRun_8 : decode cX8_isRun 8 = .ok (.isub, 1) := by decide +kernel
theorem dX8_isRun_9 : decode cX8_isRun 9 = .ok (.i2l, 1) := by decide +kernel
theorem dX8_isRun_10 : decode cX8_isRun 10 = .ok (.invokestatic 46, 3) := by decide +kernel
theorem dX8_isRun_13 : decode cX8_isRun 13 = .ok (.ireturn, 1) := by decide +kernel
theorem dX8_runAt_0 : decode cX8_runAt 0 = .ok (.iconst 0, 1) := by decide +kernel
theorem dX8_runAt_1 : decode cX8_runAt 1 = .ok (.istore_n 2, 1) := by decide +kernel
theorem dX8_runAt_2 : decode cX8_runAt 2 = .ok (.iconst 1, 1) := by decide +kernel
theorem dX8_runAt_3 : decode cX8_runAt 3 = .ok (.istore_n 3, 1) := by decide +kernel
theorem dX8_runAt_4 : decode cX8_runAt 4 = .ok (.iload_n 3, 1) := by decide +kernel
theorem dX8_runAt_5 : decode cX8_runAt 5 = .ok (.iload_n 1, 1) := by decide +kernel
theorem dX8_runAt_6 : decode cX8_runAt 6 = .ok (.if_icmp .gt 25, 3) := by decide +kernel
theorem dX8_runAt_9 : decode cX8_runAt 9 = .ok (.iload_n 2, 1) := by decide +kernel
theorem dX8_runAt_10 : decode cX8_runAt 10 = .ok (.aload_n 0, 1) := by decide +kernel
theorem dX8_runAt_11 : decode cX8_runAt 11 = .ok (.iload_n 3, 1) := by decide +kernel
theorem dX8_runAt_12 : decode cX8_runAt 12 = .ok (.invokestatic 60, 3) := by decide +kernel
theorem dX8_runAt_15 : decode cX8_runAt 15 = .ok (.ifCond .eq 7, 3) := by decide +kernel
theorem dX8_runAt_18 : decode cX8_runAt 18 = .ok (.iconst 1, 1) := by decide +kernel
theorem dX8_runAt_19 : decode cX8_runAt 19 = .ok (.goto 4, 3) := by decide +kernel
theorem dX8_runAt_22 : decode cX8_runAt 22 = .ok (.iconst 0, 1) := by decide +kernel
theorem dX8_runAt_23 : decode cX8_runAt 23 = .ok (.iadd, 1) := by decide +kernel
theorem dX8_runAt_24 : decode cX8_runAt 24 = .ok (.istore_n 2, 1) := by decide +kernel
theorem dX8_runAt_25 : decode cX8_runAt 25 = .ok (.iinc 3 1, 3) := by decide +kernel
theorem dX8_runAt_28 : decode cX8_runAt 28 = .ok (.goto (-24), 3) := by decide +kernel
theorem dX8_runAt_31 : decode cX8_runAt 31 = .ok (.iload_n 2, 1) := by decide +kernel
theorem dX8_runAt_32 : decode cX8_runAt 32 = .ok (.ireturn, 1) := by decide +kernel
theorem dX8_firstOf_0 : decode cX8_firstOf 0 = .ok (.iconst 0, 1) := by decide +kernel
theorem dX8_firstOf_1 : decode cX8_firstOf 1 = .ok (.istore_n 2, 1) := by decide +kernel
theorem dX8_firstOf_2 : decode cX8_firstOf 2 = .ok (.aload_n 0, 1) := by decide +kernel
theorem dX8_firstOf_3 : decode cX8_firstOf 3 = .ok (.iload_n 2, 1) := by decide +kernel
theorem dX8_firstOf_4 : decode cX8_firstOf 4 = .ok (.invokestatic 64, 3) := by decide +kernel
theorem dX8_firstOf_7 : decode cX8_firstOf 7 = .ok (.iload_n 1, 1) := by decide +kernel
theorem dX8_firstOf_8 : decode cX8_firstOf 8 = .ok (.if_icmp .ge 9, 3) := by decide +kernel
theorem dX8_firstOf_11 : decode cX8_firstOf 11 = .ok (.iinc 2 1, 3) := by decide +kernel
theorem dX8_firstOf_14 : decode cX8_firstOf 14 = .ok (.goto (-12), 3) := by decide +kernel
theorem dX8_firstOf_17 : decode cX8_firstOf 17 = .ok (.iload_n 2, 1) := by decide +kernel
theorem dX8_firstOf_18 : decode cX8_firstOf 18 = .ok (.ireturn, 1) := by decide +kernel
theorem dX8_placesOf_0 : decode cX8_placesOf 0 = .ok (.iconst 0, 1) := by decide +kernel
theorem dX8_placesOf_1 : decode cX8_placesOf 1 = .ok (.istore_n 2, 1) := by decide +kernel
theorem dX8_placesOf_2 : decode cX8_placesOf 2 = .ok (.iconst 0, 1) := by decide +kernel
theorem dX8_placesOf_3 : decode cX8_placesOf 3 = .ok (.istore_n 3, 1) := by decide +kernel
theorem dX8_placesOf_4 : decode cX8_placesOf 4 = .ok (.iload_n 3, 1) := by decide +kernel
theorem dX8_placesOf_5 : decode cX8_placesOf 5 = .ok (.aload_n 0, 1) := by decide +kernel
theorem dX8_placesOf_6 : decode cX8_placesOf 6 = .ok (.iconst 0, 1) := by decide +kernel
theorem dX8_placesOf_7 : decode cX8_placesOf 7 = .ok (.iaload, 1) := by decide +kernel
theorem dX8_placesOf_8 : decode cX8_placesOf 8 = .ok (.if_icmp .ge 26, 3) := by decide +kernel
theorem dX8_placesOf_11 : decode cX8_placesOf 11 = .ok (.iload_n 2, 1) := by decide +kernel
theorem dX8_placesOf_12 : decode cX8_placesOf 12 = .ok (.aload_n 0, 1) := by decide +kernel
theorem dX8_placesOf_13 : decode cX8_placesOf 13 = .ok (.iload_n 3, 1) := by decide +kernel
theorem dX8_placesOf_14 : decode cX8_placesOf 14 = .ok (.invokestatic 64, 3) := by decide +kernel
theorem dX8_placesOf_17 : decode cX8_placesOf 17 = .ok (.iload_n 1, 1) := by decide +kernel
theorem dX8_placesOf_18 : decode cX8_placesOf 18 = .ok (.if_icmp .ne 7, 3) := by decide +kernel
theorem dX8_placesOf_21 : decode cX8_placesOf 21 = .ok (.iconst 1, 1) := by decide +kernel
theorem dX8_placesOf_22 : decode cX8_placesOf 22 = .ok (.goto 4, 3) := by decide +kernel
theorem dX8_placesOf_25 : decode cX8_placesOf 25 = .ok (.iconst 0, 1) := by decide +kernel
theorem dX8_placesOf_26 : decode cX8_placesOf 26 = .ok (.iadd, 1) := by decide +kernel
theorem dX8_placesOf_27 : decode cX8_placesOf 27 = .ok (.istore_n 2, 1) := by decide +kernel
theorem dX8_placesOf_28 : decode cX8_placesOf 28 = .ok (.iinc 3 1, 3) := by decide +kernel
theorem dX8_placesOf_31 : decode cX8_placesOf 31 = .ok (.goto (-27), 3) := by decide +kernel
theorem dX8_placesOf_34 : decode cX8_placesOf 34 = .ok (.iload_n 2, 1) := by decide +kernel
theorem dX8_placesOf_35 : decode cX8_placesOf 35 = .ok (.ireturn, 1) := by decide +kernel
theorem dX8_hasOf_0 : decode cX8_hasOf 0 = .ok (.iconst 0, 1) := by decide +kernel
theorem dX8_hasOf_1 : decode cX8_hasOf 1 = .ok (.istore_n 3, 1) := by decide +kernel
theorem dX8_hasOf_2 : decode cX8_hasOf 2 = .ok (.iconst 0, 1) := by decide +kernel
theorem dX8_hasOf_3 : decode cX8_hasOf 3 = .ok (.istore 4, 2) := by decide +kernel
theorem dX8_hasOf_5 : decode cX8_hasOf 5 = .ok (.iload 4, 2) := by decide +kernel
theorem dX8_hasOf_7 : decode cX8_hasOf 7 = .ok (.aload_n 0, 1) := by decide +kernel
theorem dX8_hasOf_8 : decode cX8_hasOf 8 = .ok (.iconst 0, 1) := by decide +kernel
theorem dX8_hasOf_9 : decode cX8_hasOf 9 = .ok (.iaload, 1) := by decide +kernel
theorem dX8_hasOf_10 : decode cX8_hasOf 10 = .ok (.if_icmp .ge 52, 3) := by decide +kernel
theorem dX8_hasOf_13 : decode cX8_hasOf 13 = .ok (.aload_n 0, 1) := by decide +kernel
theorem dX8_hasOf_14 : decode cX8_hasOf 14 = .ok (.iload 4, 2) := by decide +kernel
theorem dX8_hasOf_16 : decode cX8_hasOf 16 = .ok (.invokestatic 68, 3) := by decide +kernel
theorem dX8_hasOf_19 : decode cX8_hasOf 19 = .ok (.istore 5, 2) := by decide +kernel
theorem dX8_hasOf_21 : decode cX8_hasOf 21 = .ok (.iload_n 3, 1) := by decide +kernel
theorem dX8_hasOf_22 : decode cX8_hasOf 22 = .ok (.aload_n 0, 1) := by decide +kernel
theorem dX8_hasOf_23 : decode cX8_hasOf 23 = .ok (.bipush 38, 2) := by decide +kernel
theorem dX8_hasOf_25 : decode cX8_hasOf 25 = .ok (.iload 4, 2) := by decide +kernel
theorem dX8_hasOf_27 : decode cX8_hasOf 27 = .ok (.iadd, 1) := by decide +kernel
theorem dX8_hasOf_28 : decode cX8_hasOf 28 = .ok (.iaload, 1) := by decide +kernel
theorem dX8_hasOf_29 : decode cX8_hasOf 29 = .ok (.iload_n 1, 1) := by decide +kernel
theorem dX8_hasOf_30 : decode cX8_hasOf 30 = .ok (.if_icmp .ne 23, 3) := by decide +kernel
theorem dX8_hasOf_33 : decode cX8_hasOf 33 = .ok (.aload_n 0, 1) := by decide +kernel
theorem dX8_hasOf_34 : decode cX8_hasOf 34 = .ok (.bipush 6, 2) := by decide +kernel
theorem dX8_hasOf_36 : decode cX8_hasOf 36 = .ok (.iload 5, 2) := by decide +kernel
theorem dX8_hasOf_38 : decode cX8_hasOf 38 = .ok (.iadd, 1) := by decide +kernel
theorem dX8_hasOf_39 : decode cX8_hasOf 39 = .ok (.iaload, 1) := by decide +kernel
theorem dX8_hasOf_40 : decode cX8_hasOf 40 = .ok (.iload_n 2, 1) := by decide +kernel
theorem dX8_hasOf_41 : decode cX8_hasOf 41 = .ok (.if_icmp .ne 12, 3) := by decide +kernel
theorem dX8_hasOf_44 : decode cX8_hasOf 44 = .ok (.aload_n 0, 1) := by decide +kernel
theorem dX8_hasOf_45 : decode cX8_hasOf 45 = .ok (.iload 5, 2) := by decide +kernel
theorem dX8_hasOf_47 : decode cX8_hasOf 47 = .ok (.invokestatic 71, 3) := by decide +kernel
theorem dX8_hasOf_50 : decode cX8_hasOf 50 = .ok (.goto 4, 3) := by decide +kernel
theorem dX8_hasOf_53 : decode cX8_hasOf 53 = .ok (.iconst 0, 1) := by decide +kernel
theorem dX8_hasOf_54 : decode cX8_hasOf 54 = .ok (.iadd, 1) := by decide +kernel
theorem dX8_hasOf_55 : decode cX8_hasOf 55 = .ok (.istore_n 3, 1) := by decide +kernel
theorem dX8_hasOf_56 : decode cX8_hasOf 56 = .ok (.iinc 4 1, 3) := by decide +kernel
theorem dX8_hasOf_59 : decode cX8_hasOf 59 = .ok (.goto (-54), 3) := by decide +kernel
theorem dX8_hasOf_62 : decode cX8_hasOf 62 = .ok (.iload_n 3, 1) := by decide +kernel
theorem dX8_hasOf_63 : decode cX8_hasOf 63 = .ok (.ireturn, 1) := by decide +kernel
theorem dX8_gap_0 : decode cX8_gap 0 = .ok (.iconst 0, 1) := by decide +kernel
theorem dX8_gap_1 : decode cX8_gap 1 = .ok (.istore_n 1, 1) := by decide +kernel
theorem dX8_gap_2 : decode cX8_gap 2 = .ok (.iconst 0, 1) := by decide +kernel
theorem dX8_gap_3 : decode cX8_gap 3 = .ok (.istore_n 2, 1) := by decide +kernel
theorem dX8_gap_4 : decode cX8_gap 4 = .ok (.iload_n 2, 1) := by decide +kernel
theorem dX8_gap_5 : decode cX8_gap 5 = .ok (.iconst 4, 1) := by decide +kernel
theorem dX8_gap_6 : decode cX8_gap 6 = .ok (.if_icmp .ge 36, 3) := by decide +kernel
theorem dX8_gap_9 : decode cX8_gap 9 = .ok (.aload_n 0, 1) := by decide +kernel
theorem dX8_gap_10 : decode cX8_gap 10 = .ok (.iconst 0, 1) := by decide +kernel
theorem dX8_gap_11 : decode cX8_gap 11 = .ok (.iload_n 2, 1) := by decide +kernel
theorem dX8_gap_12 : decode cX8_gap 12 = .ok (.invokestatic 74, 3) := by decide +kernel
theorem dX8_gap_15 : decode cX8_gap 15 = .ok (.aload_n 0, 1) := by decide +kernel
theorem dX8_gap_16 : decode cX8_gap 16 = .ok (.iconst 1, 1) := by decide +kernel
theorem dX8_gap_17 : decode cX8_gap 17 = .ok (.iload_n 2, 1) := by decide +kernel
theorem dX8_gap_18 : decode cX8_gap 18 = .ok (.invokestatic 74, 3) := by decide +kernel
theorem dX8_gap_21 : decode cX8_gap 21 = .ok (.isub, 1) := by decide +kernel
theorem dX8_gap_22 : decode cX8_gap 22 = .ok (.istore_n 3, 1) := by decide +kernel
theorem dX8_gap_23 : decode cX8_gap 23 = .ok (.iload_n 1, 1) := by decide +kernel
theorem dX8_gap_24 : decode cX8_gap 24 = .ok (.iload_n 3, 1) := by decide +kernel
theorem dX8_gap_25 : decode cX8_gap 25 = .ok (.ifCond .ge 8, 3) := by decide +kernel
theorem dX8_gap_28 : decode cX8_gap 28 = .ok (.iload_n 3, 1) := by decide +kernel
theorem dX8_gap_29 : decode cX8_gap 29 = .ok (.ineg, 1) := by decide +kernel
theorem dX8_gap_30 : decode cX8_gap 30 = .ok (.goto 4, 3) := by decide +kernel
theorem dX8_gap_33 : decode cX8_gap 33 = .ok (.iload_n 3, 1) := by decide +kernel
theorem dX8_gap_34 : decode cX8_gap 34 = .ok (.iadd, 1) := by decide +kernel
theorem dX8_gap_35 : decode cX8_gap 35 = .ok (.istore_n 1, 1) := by decide +kernel
theorem dX8_gap_36 : decode cX8_gap 36 = .ok (.iinc 2 1, 3) := by decide +kernel
theorem dX8_gap_39 : decode cX8_gap 39 = .ok (.goto (-35), 3) := by decide +kernel
theorem dX8_gap_42 : decode cX8_gap 42 = .ok (.iload_n 1, 1) := by decide +kernel
theorem dX8_gap_43 : decode cX8_gap 43 = .ok (.ireturn, 1) := by decide +kernel
theorem dX8_nobodys_0 : decode cX8_nobodys 0 = .ok (.iconst 0, 1) := by decide +kernel
theorem dX8_nobodys_1 : decode cX8_nobodys 1 = .ok (.istore_n 1, 1) := by decide +kernel
theorem dX8_nobodys_2 : decode cX8_nobodys 2 = .ok (.iconst 0, 1) := by decide +kernel
theorem dX8_nobodys_3 : decode cX8_nobodys 3 = .ok (.istore_n 2, 1) := by decide +kernel
theorem dX8_nobodys_4 : decode cX8_nobodys 4 = .ok (.iload_n 2, 1) := by decide +kernel
theorem dX8_nobodys_5 : decode cX8_nobodys 5 = .ok (.aload_n 0, 1) := by decide +kernel
theorem dX8_nobodys_6 : decode cX8_nobodys 6 = .ok (.iconst 0, 1) := by decide +kernel
theorem dX8_nobodys_7 : decode cX8_nobodys 7 = .ok (.iaload, 1) := by decide +kernel
theorem dX8_nobodys_8 : decode cX8_nobodys 8 = .ok (.if_icmp .ge 27, 3) := by decide +kernel
theorem dX8_nobodys_11 : decode cX8_nobodys 11 = .ok (.iload_n 1, 1) := by decide +kernel
theorem dX8_nobodys_12 : decode cX8_nobodys 12 = .ok (.aload_n 0, 1) := by decide +kernel
theorem dX8_nobodys_13 : decode cX8_nobodys 13 = .ok (.bipush 38, 2) := by decide +kernel
theorem dX8_nobodys_15 : decode cX8_nobodys 15 = .ok (.iload_n 2, 1) := by decide +kernel
theorem dX8_nobodys_16 : decode cX8_nobodys 16 = .ok (.iadd, 1) := by decide +kernel
theorem dX8_nobodys_17 : decode cX8_nobodys 17 = .ok (.iaload, 1) := by decide +kernel
theorem dX8_nobodys_18 : decode cX8_nobodys 18 = .ok (.iconst (-1), 1) := by decide +kernel
theorem dX8_nobodys_19 : decode cX8_nobodys 19 = .ok (.if_icmp .ne 7, 3) := by decide +kernel
theorem dX8_nobodys_22 : decode cX8_nobodys 22 = .ok (.iconst 1, 1) := by decide +kernel
theorem dX8_nobodys_23 : decode cX8_nobodys 23 = .ok (.goto 4, 3) := by decide +kernel
theorem dX8_nobodys_26 : decode cX8_nobodys 26 = .ok (.iconst 0, 1) := by decide +kernel
theorem dX8_nobodys_27 : decode cX8_nobodys 27 = .ok (.iadd, 1) := by decide +kernel
theorem dX8_nobodys_28 : decode cX8_nobodys 28 = .ok (.istore_n 1, 1) := by decide +kernel
theorem dX8_nobodys_29 : decode cX8_nobodys 29 = .ok (.iinc 2 1, 3) := by decide +kernel
theorem dX8_nobodys_32 : decode cX8_nobodys 32 = .ok (.goto (-28), 3) := by decide +kernel
theorem dX8_nobodys_35 : decode cX8_nobodys 35 = .ok (.iload_n 1, 1) := by decide +kernel
theorem dX8_nobodys_36 : decode cX8_nobodys 36 = .ok (.ireturn, 1) := by decide +kernel
theorem dX8_layOut_0 : decode cX8_layOut 0 = .ok (.iconst 0, 1) := by decide +kernel
theorem dX8_layOut_1 : decode cX8_layOut 1 = .ok (.istore_n 2, 1) := by decide +kernel
theorem dX8_layOut_2 : decode cX8_layOut 2 = .ok (.iload_n 2, 1) := by decide +kernel
theorem dX8_layOut_3 : decode cX8_layOut 3 = .ok (.iconst 4, 1) := by decide +kernel
theorem dX8_layOut_4 : decode cX8_layOut 4 = .ok (.if_icmp .ge 87, 3) := by decide +kernel
theorem dX8_layOut_7 : decode cX8_layOut 7 = .ok (.aload_n 0, 1) := by decide +kernel
theorem dX8_layOut_8 : decode cX8_layOut 8 = .ok (.getfield 29, 3) := by decide +kernel
theorem dX8_layOut_11 : decode cX8_layOut 11 = .ok (.bipush 17, 2) := by decide +kernel
theorem dX8_layOut_13 : decode cX8_layOut 13 = .ok (.iload_n 2, 1) := by decide +kernel
theorem dX8_layOut_14 : decode cX8_layOut 14 = .ok (.imul, 1) := by decide +kernel
theorem dX8_layOut_15 : decode cX8_layOut 15 = .ok (.iconst 0, 1) := by decide +kernel
theorem dX8_layOut_16 : decode cX8_layOut 16 = .ok (.iastore, 1) := by decide +kernel
theorem dX8_layOut_17 : decode cX8_layOut 17 = .ok (.iconst 0, 1) := by decide +kernel
theorem dX8_layOut_18 : decode cX8_layOut 18 = .ok (.istore_n 3, 1) := by decide +kernel
theorem dX8_layOut_19 : decode cX8_layOut 19 = .ok (.iload_n 3, 1) := by decide +kernel
theorem dX8_layOut_20 : decode cX8_layOut 20 = .ok (.aload_n 1, 1) := by decide +kernel
theorem dX8_layOut_21 : decode cX8_layOut 21 = .ok (.iconst 0, 1) := by decide +kernel
theorem dX8_layOut_22 : decode cX8_layOut 22 = .ok (.iaload, 1) := by decide +kernel
theorem dX8_layOut_23 : decode cX8_layOut 23 = .ok (.if_icmp .ge 62, 3) := by decide +kernel
theorem dX8_layOut_26 : decode cX8_layOut 26 = .ok (.aload_n 1, 1) := by decide +kernel
theorem dX8_layOut_27 : decode cX8_layOut 27 = .ok (.iload_n 3, 1) := by decide +kernel
theorem dX8_layOut_28 : decode cX8_layOut 28 = .ok (.invokestatic 68, 3) := by decide +kernel
theorem dX8_layOut_31 : decode cX8_layOut 31 = .ok (.istore 4, 2) := by decide +kernel
theorem dX8_layOut_33 : decode cX8_layOut 33 = .ok (.aload_n 0, 1) := by decide +kernel
theorem dX8_layOut_34 : decode cX8_layOut 34 = .ok (.getfield 29, 3) := by decide +kernel
theorem dX8_layOut_37 : decode cX8_layOut 37 = .ok (.bipush 17, 2) := by decide +kernel
theorem dX8_layOut_39 : decode cX8_layOut 39 = .ok (.iload_n 2, 1) := by decide +kernel
theorem dX8_layOut_40 : decode cX8_layOut 40 = .ok (.imul, 1) := by decide +kernel
theorem dX8_layOut_41 : decode cX8_layOut 41 = .ok (.iload_n 3, 1) := by decide +kernel
theorem dX8_layOut_42 : decode cX8_layOut 42 = .ok (.iadd, 1) := by decide +kernel
theorem dX8_layOut_43 : decode cX8_layOut 43 = .ok (.iconst 1, 1) := by decide +kernel
theorem dX8_layOut_44 : decode cX8_layOut 44 = .ok (.iadd, 1) := by decide +kernel
theorem dX8_layOut_45 : decode cX8_layOut 45 = .ok (.aload_n 0, 1) := by decide +kernel
theorem dX8_layOut_46 : decode cX8_layOut 46 = .ok (.getfield 29, 3) := by decide +kernel
theorem dX8_layOut_49 : decode cX8_layOut 49 = .ok (.bipush 17, 2) := by decide +kernel
theorem dX8_layOut_51 : decode cX8_layOut 51 = .ok (.iload_n 2, 1) := by decide +kernel
theorem dX8_layOut_52 : decode cX8_layOut 52 = .ok (.imul, 1) := by decide +kernel
theorem dX8_layOut_53 : decode cX8_layOut 53 = .ok (.iload_n 3, 1) := by decide +kernel
theorem dX8_layOut_54 : decode cX8_layOut 54 = .ok (.iadd, 1) := by decide +kernel
theorem dX8_layOut_55 : decode cX8_layOut 55 = .ok (.iaload, 1) := by decide +kernel
theorem dX8_layOut_56 : decode cX8_layOut 56 = .ok (.aload_n 1, 1) := by decide +kernel
theorem dX8_layOut_57 : decode cX8_layOut 57 = .ok (.bipush 6, 2) := by decide +kernel
theorem dX8_layOut_59 : decode cX8_layOut 59 = .ok (.iload 4, 2) := by decide +kernel
theorem dX8_layOut_61 : decode cX8_layOut 61 = .ok (.iadd, 1) := by decide +kernel
theorem dX8_layOut_62 : decode cX8_layOut 62 = .ok (.iaload, 1) := by decide +kernel
theorem dX8_layOut_63 : decode cX8_layOut 63 = .ok (.iload_n 2, 1) := by decide +kernel
theorem dX8_layOut_64 : decode cX8_layOut 64 = .ok (.if_icmp .ne 12, 3) := by decide +kernel
theorem dX8_layOut_67 : decode cX8_layOut 67 = .ok (.aload_n 1, 1) := by decide +kernel
theorem dX8_layOut_68 : decode cX8_layOut 68 = .ok (.iload 4, 2) := by decide +kernel
theorem dX8_layOut_70 : decode cX8_layOut 70 = .ok (.invokestatic 71, 3) := by decide +kernel
theorem dX8_layOut_73 : decode cX8_layOut 73 = .ok (.goto 4, 3) := by decide +kernel
theorem dX8_layOut_76 : decode cX8_layOut 76 = .ok (.iconst 0, 1) := by decide +kernel
theorem dX8_layOut_77 : decode cX8_layOut 77 = .ok (.iadd, 1) := by decide +kernel
theorem dX8_layOut_78 : decode cX8_layOut 78 = .ok (.iastore, 1) := by decide +kernel
theorem dX8_layOut_79 : decode cX8_layOut 79 = .ok (.iinc 3 1, 3) := by decide +kernel
theorem dX8_layOut_82 : decode cX8_layOut 82 = .ok (.goto (-63), 3) := by decide +kernel
theorem dX8_layOut_85 : decode cX8_layOut 85 = .ok (.iinc 2 1, 3) := by decide +kernel
theorem dX8_layOut_88 : decode cX8_layOut 88 = .ok (.goto (-86), 3) := by decide +kernel
theorem dX8_layOut_91 : decode cX8_layOut 91 = .ok (.return_, 1) := by decide +kernel
theorem dX8_gapTried_0 : decode cX8_gapTried 0 = .ok (.iconst 0, 1) := by decide +kernel
theorem dX8_gapTried_1 : decode cX8_gapTried 1 = .ok (.istore_n 3, 1) := by decide +kernel
theorem dX8_gapTried_2 : decode cX8_gapTried 2 = .ok (.iconst 0, 1) := by decide +kernel
theorem dX8_gapTried_3 : decode cX8_gapTried 3 = .ok (.istore 4, 2) := by decide +kernel
theorem dX8_gapTried_5 : decode cX8_gapTried 5 = .ok (.iload 4, 2) := by decide +kernel
theorem dX8_gapTried_7 : decode cX8_gapTried 7 = .ok (.iconst 4, 1) := by decide +kernel
theorem dX8_gapTried_8 : decode cX8_gapTried 8 = .ok (.if_icmp .ge 118, 3) := by decide +kernel
theorem dX8_gapTried_11 : decode cX8_gapTried 11 = .ok (.iconst 0, 1) := by decide +kernel
theorem dX8_gapTried_12 : decode cX8_gapTried 12 = .ok (.istore 5, 2) := by decide +kernel
theorem dX8_gapTried_14 : decode cX8_gapTried 14 = .ok (.iconst 0, 1) := by decide +kernel
theorem dX8_gapTried_15 : decode cX8_gapTried 15 = .ok (.istore 6, 2) := by decide +kernel
theorem dX8_gapTried_17 : decode cX8_gapTried 17 = .ok (.iconst 0, 1) := by decide +kernel
theorem dX8_gapTried_18 : decode cX8_gapTried 18 = .ok (.istore 7, 2) := by decide +kernel
theorem dX8_gapTried_20 : decode cX8_gapTried 20 = .ok (.iload 7, 2) := by decide +kernel
theorem dX8_gapTried_22 : decode cX8_gapTried 22 = .ok (.iload_n 2, 1) := by decide +kernel
theorem dX8_gapTried_23 : decode cX8_gapTried 23 = .ok (.if_icmp .gt 81, 3) := by decide +kernel
theorem dX8_gapTried_26 : decode cX8_gapTried 26 = .ok (.iload 7, 2) := by decide +kernel
theorem dX8_gapTried_28 : decode cX8_gapTried 28 = .ok (.iload_n 2, 1) := by decide +kernel
theorem dX8_gapTried_29 : decode cX8_gapTried 29 = .ok (.if_icmp .ge 13, 3) := by decide +kernel
theorem dX8_gapTried_32 : decode cX8_gapTried 32 = .ok (.aload_n 0, 1) := by decide +kernel
theorem dX8_gapTried_33 : decode cX8_gapTried 33 = .ok (.getfield 32, 3) := by decide +kernel
theorem dX8_gapTried_36 : decode cX8_gapTried 36 = .ok (.iload 7, 2) := by decide +kernel
theorem dX8_gapTried_38 : decode cX8_gapTried 38 = .ok (.iaload, 1) := by decide +kernel
theorem dX8_gapTried_39 : decode cX8_gapTried 39 = .ok (.goto 4, 3) := by decide +kernel
theorem dX8_gapTried_42 : decode cX8_gapTried 42 = .ok (.iload_n 1, 1) := by decide +kernel
theorem dX8_gapTried_43 : decode cX8_gapTried 43 = .ok (.istore 8, 2) := by decide +kernel
theorem dX8_gapTried_45 : decode cX8_gapTried 45 = .ok (.aload_n 0, 1) := by decide +kernel
theorem dX8_gapTried_46 : decode cX8_gapTried 46 = .ok (.getfield 29, 3) := by decide +kernel
theorem dX8_gapTried_49 : decode cX8_gapTried 49 = .ok (.bipush 17, 2) := by decide +kernel
theorem dX8_gapTried_51 : decode cX8_gapTried 51 = .ok (.iload 4, 2) := by decide +kernel
theorem dX8_gapTried_53 : decode cX8_gapTried 53 = .ok (.imul, 1) := by decide +kernel
theorem dX8_gapTried_54 : decode cX8_gapTried 54 = .ok (.iload 8, 2) := by decide +kernel
theorem dX8_gapTried_56 : decode cX8_gapTried 56 = .ok (.iadd, 1) := by decide +kernel
theorem dX8_gapTried_57 : decode cX8_gapTried 57 = .ok (.iaload, 1) := by decide +kernel
theorem dX8_gapTried_58 : decode cX8_gapTried 58 = .ok (.aload_n 0, 1) := by decide +kernel
theorem dX8_gapTried_59 : decode cX8_gapTried 59 = .ok (.getfield 29, 3) := by decide +kernel
theorem dX8_gapTried_62 : decode cX8_gapTried 62 = .ok (.bipush 17, 2) := by decide +kernel
theorem dX8_gapTried_64 : decode cX8_gapTried 64 = .ok (.iload 4, 2) := by decide +kernel
theorem dX8_gapTried_66 : decode cX8_gapTried 66 = .ok (.imul, 1) := by decide +kernel
theorem dX8_gapTried_67 : decode cX8_gapTried 67 = .ok (.iload 6, 2) := by decide +kernel
theorem dX8_gapTried_69 : decode cX8_gapTried 69 = .ok (.iadd, 1) := by decide +kernel
theorem dX8_gapTried_70 : decode cX8_gapTried 70 = .ok (.iaload, 1) := by decide +kernel
theorem dX8_gapTried_71 : decode cX8_gapTried 71 = .ok (.isub, 1) := by decide +kernel
theorem dX8_gapTried_72 : decode cX8_gapTried 72 = .ok (.istore 9, 2) := by decide +kernel
theorem dX8_gapTried_74 : decode cX8_gapTried 74 = .ok (.iload 5, 2) := by decide +kernel
theorem dX8_gapTried_76 : decode cX8_gapTried 76 = .ok (.iload 7, 2) := by decide +kernel
theorem dX8_gapTried_78 : decode cX8_gapTried 78 = .ok (.iconst 2, 1) := by decide +kernel
theorem dX8_gapTried_79 : decode cX8_gapTried 79 = .ok (.irem, 1) := by decide +kernel
theorem dX8_gapTried_80 : decode cX8_gapTried 80 = .ok (.ifCond .ne 8, 3) := by decide +kernel
theorem dX8_gapTried_83 : decode cX8_gapTried 83 = .ok (.iload 9, 2) := by decide +kernel
theorem dX8_gapTried_85 : decode cX8_gapTried 85 = .ok (.goto 6, 3) := by decide +kernel
theorem dX8_gapTried_88 : decode cX8_gapTried 88 = .ok (.iload 9, 2) := by decide +kernel
theorem dX8_gapTried_90 : decode cX8_gapTried 90 = .ok (.ineg, 1) := by decide +kernel
theorem dX8_gapTried_91 : decode cX8_gapTried 91 = .ok (.iadd, 1) := by decide +kernel
theorem dX8_gapTried_92 : decode cX8_gapTried 92 = .ok (.istore 5, 2) := by decide +kernel
theorem dX8_gapTried_94 : decode cX8_gapTried 94 = .ok (.iload 8, 2) := by decide +kernel
theorem dX8_gapTried_96 : decode cX8_gapTried 96 = .ok (.istore 6, 2) := by decide +kernel
theorem dX8_gapTried_98 : decode cX8_gapTried 98 = .ok (.iinc 7 1, 3) := by decide +kernel
theorem dX8_gapTried_101 : decode cX8_gapTried 101 = .ok (.goto (-81), 3) := by decide +kernel
theorem dX8_gapTried_104 : decode cX8_gapTried 104 = .ok (.iload_n 3, 1) := by decide +kernel
theorem dX8_gapTried_105 : decode cX8_gapTried 105 = .ok (.iload 5, 2) := by decide +kernel
theorem dX8_gapTried_107 : decode cX8_gapTried 107 = .ok (.ifCond .ge 9, 3) := by decide +kernel
theorem dX8_gapTried_110 : decode cX8_gapTried 110 = .ok (.iload 5, 2) := by decide +kernel
theorem dX8_gapTried_112 : decode cX8_gapTried 112 = .ok (.ineg, 1) := by decide +kernel
theorem dX8_gapTried_113 : decode cX8_gapTried 113 = .ok (.goto 5, 3) := by decide +kernel
theorem dX8_gapTried_116 : decode cX8_gapTried 116 = .ok (.iload 5, 2) := by decide +kernel
theorem dX8_gapTried_118 : decode cX8_gapTried 118 = .ok (.iadd, 1) := by decide +kernel
theorem dX8_gapTried_119 : decode cX8_gapTried 119 = .ok (.istore_n 3, 1) := by decide +kernel
theorem dX8_gapTried_120 : decode cX8_gapTried 120 = .ok (.iinc 4 1, 3) := by decide +kernel
theorem dX8_gapTried_123 : decode cX8_gapTried 123 = .ok (.goto (-118), 3) := by decide +kernel
theorem dX8_gapTried_126 : decode cX8_gapTried 126 = .ok (.iload_n 3, 1) := by decide +kernel
theorem dX8_gapTried_127 : decode cX8_gapTried 127 = .ok (.ireturn, 1) := by decide +kernel
theorem dX8_firstWay_0 : decode cX8_firstWay 0 = .ok (.iconst 0, 1) := by decide +kernel
theorem dX8_firstWay_1 : decode cX8_firstWay 1 = .ok (.istore_n 3, 1) := by decide +kernel
theorem dX8_firstWay_2 : decode cX8_firstWay 2 = .ok (.iload_n 3, 1) := by decide +kernel
theorem dX8_firstWay_3 : decode cX8_firstWay 3 = .ok (.iload_n 2, 1) := by decide +kernel
theorem dX8_firstWay_4 : decode cX8_firstWay 4 = .ok (.if_icmp .ge 18, 3) := by decide +kernel
theorem dX8_firstWay_7 : decode cX8_firstWay 7 = .ok (.aload_n 0, 1) := by decide +kernel
theorem dX8_firstWay_8 : decode cX8_firstWay 8 = .ok (.getfield 32, 3) := by decide +kernel
theorem dX8_firstWay_11 : decode cX8_firstWay 11 = .ok (.iload_n 3, 1) := by decide +kernel
theorem dX8_firstWay_12 : decode cX8_firstWay 12 = .ok (.iload_n 3, 1) := by decide +kernel
theorem dX8_firstWay_13 : decode cX8_firstWay 13 = .ok (.iconst 1, 1) := by decide +kernel
theorem dX8_firstWay_14 : decode cX8_firstWay 14 = .ok (.iadd, 1) := by decide +kernel
theorem dX8_firstWay_15 : decode cX8_firstWay 15 = .ok (.iastore, 1) := by decide +kernel
theorem dX8_firstWay_16 : decode cX8_firstWay 16 = .ok (.iinc 3 1, 3) := by decide +kernel
theorem dX8_firstWay_19 : decode cX8_firstWay 19 = .ok (.goto (-17), 3) := by decide +kernel
theorem dX8_firstWay_22 : decode cX8_firstWay 22 = .ok (.iload_n 2, 1) := by decide +kernel
theorem dX8_firstWay_23 : decode cX8_firstWay 23 = .ok (.iload_n 1, 1) := by decide +kernel
theorem dX8_firstWay_24 : decode cX8_firstWay 24 = .ok (.if_icmp .lt 7, 3) := by decide +kernel
theorem dX8_firstWay_27 : decode cX8_firstWay 27 = .ok (.iload_n 2, 1) := by decide +kernel
theorem dX8_firstWay_28 : decode cX8_firstWay 28 = .ok (.ifCond .ne 7, 3) := by decide +kernel
theorem dX8_firstWay_31 : decode cX8_firstWay 31 = .ok (.iconst 1, 1) := by decide +kernel
theorem dX8_firstWay_32 : decode cX8_firstWay 32 = .ok (.goto 4, 3) := by decide +kernel
theorem dX8_firstWay_35 : decode cX8_firstWay 35 = .ok (.iconst 0, 1) := by decide +kernel
theorem dX8_firstWay_36 : decode cX8_firstWay 36 = .ok (.ireturn, 1) := by decide +kernel
theorem dX8_nextWay_0 : decode cX8_nextWay 0 = .ok (.iload_n 2, 1) := by decide +kernel
theorem dX8_nextWay_1 : decode cX8_nextWay 1 = .ok (.iconst 1, 1) := by decide +kernel
theorem dX8_nextWay_2 : decode cX8_nextWay 2 = .ok (.isub, 1) := by decide +kernel
theorem dX8_nextWay_3 : decode cX8_nextWay 3 = .ok (.istore_n 3, 1) := by decide +kernel
theorem dX8_nextWay_4 : decode cX8_nextWay 4 = .ok (.iload_n 3, 1) := by decide +kernel
theorem dX8_nextWay_5 : decode cX8_nextWay 5 = .ok (.ifCond .lt 23, 3) := by decide +kernel
theorem dX8_nextWay_8 : decode cX8_nextWay 8 = .ok (.aload_n 0, 1) := by decide +kernel
theorem dX8_nextWay_9 : decode cX8_nextWay 9 = .ok (.getfield 32, 3) := by decide +kernel
theorem dX8_nextWay_12 : decode cX8_nextWay 12 = .ok (.iload_n 3, 1) := by decide +kernel
theorem dX8_nextWay_13 : decode cX8_nextWay 13 = .ok (.iaload, 1) := by decide +kernel
theorem dX8_nextWay_14 : decode cX8_nextWay 14 = .ok (.iload_n 1, 1) := by decide +kernel
theorem dX8_nextWay_15 : decode cX8_nextWay 15 = .ok (.iload_n 2, 1) := by decide +kernel
theorem dX8_nextWay_16 : decode cX8_nextWay 16 = .ok (.isub, 1) := by decide +kernel
theorem dX8_nextWay_17 : decode cX8_nextWay 17 = .ok (.iload_n 3, 1) := by decide +kernel
theorem dX8_nextWay_18 : decode cX8_nextWay 18 = .ok (.iadd, 1) := by decide +kernel
theorem dX8_nextWay_19 : decode cX8_nextWay 19 = .ok (.if_icmp .ne 9, 3) := by decide +kernel
theorem dX8_nextWay_22 : decode cX8_nextWay 22 = .ok (.iinc 3 (-1), 3) := by decide +kernel
theorem dX8_nextWay_25 : decode cX8_nextWay 25 = .ok (.goto (-21), 3) := by decide +kernel
theorem dX8_nextWay_28 : decode cX8_nextWay 28 = .ok (.iload_n 3, 1) := by decide +kernel
theorem dX8_nextWay_29 : decode cX8_nextWay 29 = .ok (.ifCond .ge 5, 3) := by decide +kernel
theorem dX8_nextWay_32 : decode cX8_nextWay 32 = .ok (.iconst 0, 1) := by decide +kernel
theorem dX8_nextWay_33 : decode cX8_nextWay 33 = .ok (.ireturn, 1) := by decide +kernel
theorem dX8_nextWay_34 : decode cX8_nextWay 34 = .ok (.aload_n 0, 1) := by decide +kernel
theorem dX8_nextWay_35 : decode cX8_nextWay 35 = .ok (.getfield 32, 3) := by decide +kernel
theorem dX8_nextWay_38 : decode cX8_nextWay 38 = .ok (.iload_n 3, 1) := by decide +kernel
theorem dX8_nextWay_39 : decode cX8_nextWay 39 = .ok (.dup2, 1) := by decide +kernel
theorem dX8_nextWay_40 : decode cX8_nextWay 40 = .ok (.iaload, 1) := by decide +kernel
theorem dX8_nextWay_41 : decode cX8_nextWay 41 = .ok (.iconst 1, 1) := by decide +kernel
theorem dX8_nextWay_42 : decode cX8_nextWay 42 = .ok (.iadd, 1) := by decide +kernel
theorem dX8_nextWay_43 : decode cX8_nextWay 43 = .ok (.iastore, 1) := by decide +kernel
theorem dX8_nextWay_44 : decode cX8_nextWay 44 = .ok (.iload_n 3, 1) := by decide +kernel
theorem dX8_nextWay_45 : decode cX8_nextWay 45 = .ok (.iconst 1, 1) := by decide +kernel
theorem dX8_nextWay_46 : decode cX8_nextWay 46 = .ok (.iadd, 1) := by decide +kernel
theorem dX8_nextWay_47 : decode cX8_nextWay 47 = .ok (.istore 4, 2) := by decide +kernel
theorem dX8_nextWay_49 : decode cX8_nextWay 49 = .ok (.iload 4, 2) := by decide +kernel
theorem dX8_nextWay_51 : decode cX8_nextWay 51 = .ok (.iload_n 2, 1) := by decide +kernel
theorem dX8_nextWay_52 : decode cX8_nextWay 52 = .ok (.if_icmp .ge 27, 3) := by decide +kernel
theorem dX8_nextWay_55 : decode cX8_nextWay 55 = .ok (.aload_n 0, 1) := by decide +kernel
theorem dX8_nextWay_56 : decode cX8_nextWay 56 = .ok (.getfield 32, 3) := by decide +kernel
theorem dX8_nextWay_59 : decode cX8_nextWay 59 = .ok (.iload 4, 2) := by decide +kernel
theorem dX8_nextWay_61 : decode cX8_nextWay 61 = .ok (.aload_n 0, 1) := by decide +kernel
theorem dX8_nextWay_62 : decode cX8_nextWay 62 = .ok (.getfield 32, 3) := by decide +kernel
theorem dX8_nextWay_65 : decode cX8_nextWay 65 = .ok (.iload 4, 2) := by decide +kernel
theorem dX8_nextWay_67 : decode cX8_nextWay 67 = .ok (.iconst 1, 1) := by decide +kernel
theorem dX8_nextWay_68 : decode cX8_nextWay 68 = .ok (.isub, 1) := by decide +kernel
theorem dX8_nextWay_69 : decode cX8_nextWay 69 = .ok (.iaload, 1) := by decide +kernel
theorem dX8_nextWay_70 : decode cX8_nextWay 70 = .ok (.iconst 1, 1) := by decide +kernel
theorem dX8_nextWay_71 : decode cX8_nextWay 71 = .ok (.iadd, 1) := by decide +kernel
theorem dX8_nextWay_72 : decode cX8_nextWay 72 = .ok (.iastore, 1) := by decide +kernel
theorem dX8_nextWay_73 : decode cX8_nextWay 73 = .ok (.iinc 4 1, 3) := by decide +kernel
theorem dX8_nextWay_76 : decode cX8_nextWay 76 = .ok (.goto (-27), 3) := by decide +kernel
theorem dX8_nextWay_79 : decode cX8_nextWay 79 = .ok (.iconst 1, 1) := by decide +kernel
theorem dX8_nextWay_80 : decode cX8_nextWay 80 = .ok (.ireturn, 1) := by decide +kernel
theorem dX8_leastWith_0 : decode cX8_leastWith 0 = .ok (.iconst (-1), 1) := by decide +kernel
theorem dX8_leastWith_1 : decode cX8_leastWith 1 = .ok (.istore_n 3, 1) := by decide +kernel
theorem dX8_leastWith_2 : decode cX8_leastWith 2 = .ok (.aload_n 0, 1) := by decide +kernel
theorem dX8_leastWith_3 : decode cX8_leastWith 3 = .ok (.iload_n 1, 1) := by decide +kernel
theorem dX8_leastWith_4 : decode cX8_leastWith 4 = .ok (.iload_n 2, 1) := by decide +kernel
theorem dX8_leastWith_5 : decode cX8_leastWith 5 = .ok (.invokevirtual 78, 3) := by decide +kernel
theorem dX8_leastWith_8 : decode cX8_leastWith 8 = .ok (.istore 4, 2) := by decide +kernel
theorem dX8_leastWith_10 : decode cX8_leastWith 10 = .ok (.iload 4, 2) := by decide +kernel
theorem dX8_leastWith_12 : decode cX8_leastWith 12 = .ok (.ifCond .eq 53, 3) := by decide +kernel
theorem dX8_leastWith_15 : decode cX8_leastWith 15 = .ok (.aload_n 0, 1) := by decide +kernel
theorem dX8_leastWith_16 : decode cX8_leastWith 16 = .ok (.iload_n 1, 1) := by decide +kernel
theorem dX8_leastWith_17 : decode cX8_leastWith 17 = .ok (.iload_n 2, 1) := by decide +kernel
theorem dX8_leastWith_18 : decode cX8_leastWith 18 = .ok (.invokevirtual 82, 3) := by decide +kernel
theorem dX8_leastWith_21 : decode cX8_leastWith 21 = .ok (.istore 5, 2) := by decide +kernel
theorem dX8_leastWith_23 : decode cX8_leastWith 23 = .ok (.iload_n 3, 1) := by decide +kernel
theorem dX8_leastWith_24 : decode cX8_leastWith 24 = .ok (.iconst (-1), 1) := by decide +kernel
theorem dX8_leastWith_25 : decode cX8_leastWith 25 = .ok (.if_icmp .eq 9, 3) := by decide +kernel
theorem dX8_leastWith_28 : decode cX8_leastWith 28 = .ok (.iload 5, 2) := by decide +kernel
theorem dX8_leastWith_30 : decode cX8_leastWith 30 = .ok (.iload_n 3, 1) := by decide +kernel
theorem dX8_leastWith_31 : decode cX8_leastWith 31 = .ok (.if_icmp .ge 8, 3) := by decide +kernel
theorem dX8_leastWith_34 : decode cX8_leastWith 34 = .ok (.iload 5, 2) := by decide +kernel
theorem dX8_leastWith_36 : decode cX8_leastWith 36 = .ok (.goto 4, 3) := by decide +kernel
theorem dX8_leastWith_39 : decode cX8_leastWith 39 = .ok (.iload_n 3, 1) := by decide +kernel
theorem dX8_leastWith_40 : decode cX8_leastWith 40 = .ok (.istore_n 3, 1) := by decide +kernel
theorem dX8_leastWith_41 : decode cX8_leastWith 41 = .ok (.iload 5, 2) := by decide +kernel
theorem dX8_leastWith_43 : decode cX8_leastWith 43 = .ok (.ifCond .le 16, 3) := by decide +kernel
theorem dX8_leastWith_46 : decode cX8_leastWith 46 = .ok (.aload_n 0, 1) := by decide +kernel
theorem dX8_leastWith_47 : decode cX8_leastWith 47 = .ok (.iload_n 1, 1) := by decide +kernel
theorem dX8_leastWith_48 : decode cX8_leastWith 48 = .ok (.iload_n 2, 1) := by decide +kernel
theorem dX8_leastWith_49 : decode cX8_leastWith 49 = .ok (.invokevirtual 86, 3) := by decide +kernel
theorem dX8_leastWith_52 : decode cX8_leastWith 52 = .ok (.ifCond .eq 7, 3) := by decide +kernel
theorem dX8_leastWith_55 : decode cX8_leastWith 55 = .ok (.iconst 1, 1) := by decide +kernel
theorem dX8_leastWith_56 : decode cX8_leastWith 56 = .ok (.goto 4, 3) := by decide +kernel
theorem dX8_leastWith_59 : decode cX8_leastWith 59 = .ok (.iconst 0, 1) := by decide +kernel
theorem dX8_leastWith_60 : decode cX8_leastWith 60 = .ok (.istore 4, 2) := by decide +kernel
theorem dX8_leastWith_62 : decode cX8_leastWith 62 = .ok (.goto (-52), 3) := by decide +kernel
theorem dX8_leastWith_65 : decode cX8_leastWith 65 = .ok (.iload_n 3, 1) := by decide +kernel
theorem dX8_leastWith_66 : decode cX8_leastWith 66 = .ok (.ireturn, 1) := by decide +kernel
theorem dX8_fewestOf_0 : decode cX8_fewestOf 0 = .ok (.aload_n 0, 1) := by decide +kernel
theorem dX8_fewestOf_1 : decode cX8_fewestOf 1 = .ok (.aload_n 1, 1) := by decide +kernel
theorem dX8_fewestOf_2 : decode cX8_fewestOf 2 = .ok (.invokevirtual 89, 3) := by decide +kernel
theorem dX8_fewestOf_5 : decode cX8_fewestOf 5 = .ok (.iconst 0, 1) := by decide +kernel
theorem dX8_fewestOf_6 : decode cX8_fewestOf 6 = .ok (.istore_n 2, 1) := by decide +kernel
theorem dX8_fewestOf_7 : decode cX8_fewestOf 7 = .ok (.iload_n 2, 1) := by decide +kernel
theorem dX8_fewestOf_8 : decode cX8_fewestOf 8 = .ok (.bipush 6, 2) := by decide +kernel
theorem dX8_fewestOf_10 : decode cX8_fewestOf 10 = .ok (.if_icmp .gt 22, 3) := by decide +kernel
theorem dX8_fewestOf_13 : decode cX8_fewestOf 13 = .ok (.aload_n 0, 1) := by decide +kernel
theorem dX8_fewestOf_14 : decode cX8_fewestOf 14 = .ok (.aload_n 1, 1) := by decide +kernel
theorem dX8_fewestOf_15 : decode cX8_fewestOf 15 = .ok (.iconst 0, 1) := by decide +kernel
theorem dX8_fewestOf_16 : decode cX8_fewestOf 16 = .ok (.iaload, 1) := by decide +kernel
theorem dX8_fewestOf_17 : decode cX8_fewestOf 17 = .ok (.iload_n 2, 1) := by decide +kernel
theorem dX8_fewestOf_18 : decode cX8_fewestOf 18 = .ok (.invokevirtual 92, 3) := by decide +kernel
theorem dX8_fewestOf_21 : decode cX8_fewestOf 21 = .ok (.ifCond .ne 5, 3) := by decide +kernel
theorem dX8_fewestOf_24 : decode cX8_fewestOf 24 = .ok (.iload_n 2, 1) := by decide +kernel
theorem dX8_fewestOf_25 : decode cX8_fewestOf 25 = .ok (.ireturn, 1) := by decide +kernel
theorem dX8_fewestOf_26 : decode cX8_fewestOf 26 = .ok (.iinc 2 1, 3) := by decide +kernel
theorem dX8_fewestOf_29 : decode cX8_fewestOf 29 = .ok (.goto (-22), 3) := by decide +kernel
theorem dX8_fewestOf_32 : decode cX8_fewestOf 32 = .ok (.iconst (-1), 1) := by decide +kernel
theorem dX8_fewestOf_33 : decode cX8_fewestOf 33 = .ok (.ireturn, 1) := by decide +kernel
theorem dX8_jewelOn_0 : decode cX8_jewelOn 0 = .ok (.aload_n 0, 1) := by decide +kernel
theorem dX8_jewelOn_1 : decode cX8_jewelOn 1 = .ok (.iconst 0, 1) := by decide +kernel
theorem dX8_jewelOn_2 : decode cX8_jewelOn 2 = .ok (.iaload, 1) := by decide +kernel
theorem dX8_jewelOn_3 : decode cX8_jewelOn 3 = .ok (.istore_n 3, 1) := by decide +kernel
theorem dX8_jewelOn_4 : decode cX8_jewelOn 4 = .ok (.aload_n 0, 1) := by decide +kernel
theorem dX8_jewelOn_5 : decode cX8_jewelOn 5 = .ok (.bipush 6, 2) := by decide +kernel
theorem dX8_jewelOn_7 : decode cX8_jewelOn 7 = .ok (.iload_n 3, 1) := by decide +kernel
theorem dX8_jewelOn_8 : decode cX8_jewelOn 8 = .ok (.iadd, 1) := by decide +kernel
theorem dX8_jewelOn_9 : decode cX8_jewelOn 9 = .ok (.iload_n 1, 1) := by decide +kernel
theorem dX8_jewelOn_10 : decode cX8_jewelOn 10 = .ok (.iastore, 1) := by decide +kernel
theorem dX8_jewelOn_11 : decode cX8_jewelOn 11 = .ok (.aload_n 0, 1) := by decide +kernel
theorem dX8_jewelOn_12 : decode cX8_jewelOn 12 = .ok (.bipush 22, 2) := by decide +kernel
theorem dX8_jewelOn_14 : decode cX8_jewelOn 14 = .ok (.iload_n 3, 1) := by decide +kernel
theorem dX8_jewelOn_15 : decode cX8_jewelOn 15 = .ok (.iadd, 1) := by decide +kernel
theorem dX8_jewelOn_16 : decode cX8_jewelOn 16 = .ok (.iload_n 2, 1) := by decide +kernel
theorem dX8_jewelOn_17 : decode cX8_jewelOn 17 = .ok (.iastore, 1) := by decide +kernel
theorem dX8_jewelOn_18 : decode cX8_jewelOn 18 = .ok (.aload_n 0, 1) := by decide +kernel
theorem dX8_jewelOn_19 : decode cX8_jewelOn 19 = .ok (.iconst 0, 1) := by decide +kernel
theorem dX8_jewelOn_20 : decode cX8_jewelOn 20 = .ok (.dup2, 1) := by decide +kernel
theorem dX8_jewelOn_21 : decode cX8_jewelOn 21 = .ok (.iaload, 1) := by decide +kernel
theorem dX8_jewelOn_22 : decode cX8_jewelOn 22 = .ok (.iconst 1, 1) := by decide +kernel
theorem dX8_jewelOn_23 : decode cX8_jewelOn 23 = .ok (.iadd, 1) := by decide +kernel
theorem dX8_jewelOn_24 : decode cX8_jewelOn 24 = .ok (.iastore, 1) := by decide +kernel
theorem dX8_jewelOn_25 : decode cX8_jewelOn 25 = .ok (.aload_n 0, 1) := by decide +kernel
theorem dX8_jewelOn_26 : decode cX8_jewelOn 26 = .ok (.invokestatic 43, 3) := by decide +kernel
theorem dX8_jewelOn_29 : decode cX8_jewelOn 29 = .ok (.iload_n 3, 1) := by decide +kernel
theorem dX8_jewelOn_30 : decode cX8_jewelOn 30 = .ok (.ireturn, 1) := by decide +kernel
theorem dX8_exchangeOn_0 : decode cX8_exchangeOn 0 = .ok (.aload_n 0, 1) := by decide +kernel
theorem dX8_exchangeOn_1 : decode cX8_exchangeOn 1 = .ok (.bipush 6, 2) := by decide +kernel
theorem dX8_exchangeOn_3 : decode cX8_exchangeOn 3 = .ok (.iload_n 1, 1) := by decide +kernel
theorem dX8_exchangeOn_4 : decode cX8_exchangeOn 4 = .ok (.iadd, 1) := by decide +kernel
theorem dX8_exchangeOn_5 : decode cX8_exchangeOn 5 = .ok (.iaload, 1) := by decide +kernel
theorem dX8_exchangeOn_6 : decode cX8_exchangeOn 6 = .ok (.istore_n 3, 1) := by decide +kernel
theorem dX8_exchangeOn_7 : decode cX8_exchangeOn 7 = .ok (.aload_n 0, 1) := by decide +kernel
theorem dX8_exchangeOn_8 : decode cX8_exchangeOn 8 = .ok (.bipush 22, 2) := by decide +kernel
theorem dX8_exchangeOn_10 : decode cX8_exchangeOn 10 = .ok (.iload_n 1, 1) := by decide +kernel
theorem dX8_exchangeOn_11 : decode cX8_exchangeOn 11 = .ok (.iadd, 1) := by decide +kernel
theorem dX8_exchangeOn_12 : decode cX8_exchangeOn 12 = .ok (.iaload, 1) := by decide +kernel
theorem dX8_exchangeOn_13 : decode cX8_exchangeOn 13 = .ok (.istore 4, 2) := by decide +kernel
theorem dX8_exchangeOn_15 : decode cX8_exchangeOn 15 = .ok (.aload_n 0, 1) := by decide +kernel
theorem dX8_exchangeOn_16 : decode cX8_exchangeOn 16 = .ok (.bipush 6, 2) := by decide +kernel
theorem dX8_exchangeOn_18 : decode cX8_exchangeOn 18 = .ok (.iload_n 1, 1) := by decide +kernel
theorem dX8_exchangeOn_19 : decode cX8_exchangeOn 19 = .ok (.iadd, 1) := by decide +kernel
theorem dX8_exchangeOn_20 : decode cX8_exchangeOn 20 = .ok (.aload_n 0, 1) := by decide +kernel
theorem dX8_exchangeOn_21 : decode cX8_exchangeOn 21 = .ok (.bipush 6, 2) := by decide +kernel
theorem dX8_exchangeOn_23 : decode cX8_exchangeOn 23 = .ok (.iload_n 2, 1) := by decide +kernel
theorem dX8_exchangeOn_24 : decode cX8_exchangeOn 24 = .ok (.iadd, 1) := by decide +kernel
theorem dX8_exchangeOn_25 : decode cX8_exchangeOn 25 = .ok (.iaload, 1) := by decide +kernel
theorem dX8_exchangeOn_26 : decode cX8_exchangeOn 26 = .ok (.iastore, 1) := by decide +kernel
theorem dX8_exchangeOn_27 : decode cX8_exchangeOn 27 = .ok (.aload_n 0, 1) := by decide +kernel
theorem dX8_exchangeOn_28 : decode cX8_exchangeOn 28 = .ok (.bipush 22, 2) := by decide +kernel
theorem dX8_exchangeOn_30 : decode cX8_exchangeOn 30 = .ok (.iload_n 1, 1) := by decide +kernel
theorem dX8_exchangeOn_31 : decode cX8_exchangeOn 31 = .ok (.iadd, 1) := by decide +kernel
theorem dX8_exchangeOn_32 : decode cX8_exchangeOn 32 = .ok (.aload_n 0, 1) := by decide +kernel
theorem dX8_exchangeOn_33 : decode cX8_exchangeOn 33 = .ok (.bipush 22, 2) := by decide +kernel
theorem dX8_exchangeOn_35 : decode cX8_exchangeOn 35 = .ok (.iload_n 2, 1) := by decide +kernel
theorem dX8_exchangeOn_36 : decode cX8_exchangeOn 36 = .ok (.iadd, 1) := by decide +kernel
theorem dX8_exchangeOn_37 : decode cX8_exchangeOn 37 = .ok (.iaload, 1) := by decide +kernel
theorem dX8_exchangeOn_38 : decode cX8_exchangeOn 38 = .ok (.iastore, 1) := by decide +kernel
theorem dX8_exchangeOn_39 : decode cX8_exchangeOn 39 = .ok (.aload_n 0, 1) := by decide +kernel
theorem dX8_exchangeOn_40 : decode cX8_exchangeOn 40 = .ok (.bipush 6, 2) := by decide +kernel
theorem dX8_exchangeOn_42 : decode cX8_exchangeOn 42 = .ok (.iload_n 2, 1) := by decide +kernel
theorem dX8_exchangeOn_43 : decode cX8_exchangeOn 43 = .ok (.iadd, 1) := by decide +kernel
theorem dX8_exchangeOn_44 : decode cX8_exchangeOn 44 = .ok (.iload_n 3, 1) := by decide +kernel
theorem dX8_exchangeOn_45 : decode cX8_exchangeOn 45 = .ok (.iastore, 1) := by decide +kernel
theorem dX8_exchangeOn_46 : decode cX8_exchangeOn 46 = .ok (.aload_n 0, 1) := by decide +kernel
theorem dX8_exchangeOn_47 : decode cX8_exchangeOn 47 = .ok (.bipush 22, 2) := by decide +kernel
theorem dX8_exchangeOn_49 : decode cX8_exchangeOn 49 = .ok (.iload_n 2, 1) := by decide +kernel
theorem dX8_exchangeOn_50 : decode cX8_exchangeOn 50 = .ok (.iadd, 1) := by decide +kernel
theorem dX8_exchangeOn_51 : decode cX8_exchangeOn 51 = .ok (.iload 4, 2) := by decide +kernel
theorem dX8_exchangeOn_53 : decode cX8_exchangeOn 53 = .ok (.iastore, 1) := by decide +kernel
theorem dX8_exchangeOn_54 : decode cX8_exchangeOn 54 = .ok (.aload_n 0, 1) := by decide +kernel
theorem dX8_exchangeOn_55 : decode cX8_exchangeOn 55 = .ok (.invokestatic 95, 3) := by decide +kernel
theorem dX8_exchangeOn_58 : decode cX8_exchangeOn 58 = .ok (.ireturn, 1) := by decide +kernel
theorem dX8_breakOn_0 : decode cX8_breakOn 0 = .ok (.aload_n 0, 1) := by decide +kernel
theorem dX8_breakOn_1 : decode cX8_breakOn 1 = .ok (.iconst 1, 1) := by decide +kernel
theorem dX8_breakOn_2 : decode cX8_breakOn 2 = .ok (.iaload, 1) := by decide +kernel
theorem dX8_breakOn_3 : decode cX8_breakOn 3 = .ok (.istore_n 2, 1) := by decide +kernel
theorem dX8_breakOn_4 : decode cX8_breakOn 4 = .ok (.aload_n 0, 1) := by decide +kernel
theorem dX8_breakOn_5 : decode cX8_breakOn 5 = .ok (.iconst 1, 1) := by decide +kernel
theorem dX8_breakOn_6 : decode cX8_breakOn 6 = .ok (.iload_n 1, 1) := by decide +kernel
theorem dX8_breakOn_7 : decode cX8_breakOn 7 = .ok (.iastore, 1) := by decide +kernel
theorem dX8_breakOn_8 : decode cX8_breakOn 8 = .ok (.aload_n 0, 1) := by decide +kernel
theorem dX8_breakOn_9 : decode cX8_breakOn 9 = .ok (.invokestatic 43, 3) := by decide +kernel
theorem dX8_breakOn_12 : decode cX8_breakOn 12 = .ok (.iload_n 2, 1) := by decide +kernel
theorem dX8_breakOn_13 : decode cX8_breakOn 13 = .ok (.ireturn, 1) := by decide +kernel
theorem dX8_roundOn_0 : decode cX8_roundOn 0 = .ok (.iconst 0, 1) := by decide +kernel
theorem dX8_roundOn_1 : decode cX8_roundOn 1 = .ok (.istore_n 1, 1) := by decide +kernel
theorem dX8_roundOn_2 : decode cX8_roundOn 2 = .ok (.iload_n 1, 1) := by decide +kernel
theorem dX8_roundOn_3 : decode cX8_roundOn 3 = .ok (.aload_n 0, 1) := by decide +kernel
theorem dX8_roundOn_4 : decode cX8_roundOn 4 = .ok (.iconst 0, 1) := by decide +kernel
theorem dX8_roundOn_5 : decode cX8_roundOn 5 = .ok (.iaload, 1) := by decide +kernel
theorem dX8_roundOn_6 : decode cX8_roundOn 6 = .ok (.iconst 2, 1) := by decide +kernel
theorem dX8_roundOn_7 : decode cX8_roundOn 7 = .ok (.idiv, 1) := by decide +kernel
theorem dX8_roundOn_8 : decode cX8_roundOn 8 = .ok (.if_icmp .ge 22, 3) := by decide +kernel
theorem dX8_roundOn_11 : decode cX8_roundOn 11 = .ok (.aload_n 0, 1) := by decide +kernel
theorem dX8_roundOn_12 : decode cX8_roundOn 12 = .ok (.iload_n 1, 1) := by decide +kernel
theorem dX8_roundOn_13 : decode cX8_roundOn 13 = .ok (.aload_n 0, 1) := by decide +kernel
theorem dX8_roundOn_14 : decode cX8_roundOn 14 = .ok (.iconst 0, 1) := by decide +kernel
theorem dX8_roundOn_15 : decode cX8_roundOn 15 = .ok (.iaload, 1) := by decide +kernel
theorem dX8_roundOn_16 : decode cX8_roundOn 16 = .ok (.iconst 1, 1) := by decide +kernel
theorem dX8_roundOn_17 : decode cX8_roundOn 17 = .ok (.isub, 1) := by decide +kernel
theorem dX8_roundOn_18 : decode cX8_roundOn 18 = .ok (.iload_n 1, 1) := by decide +kernel
theorem dX8_roundOn_19 : decode cX8_roundOn 19 = .ok (.isub, 1) := by decide +kernel
theorem dX8_roundOn_20 : decode cX8_roundOn 20 = .ok (.invokestatic 98, 3) := by decide +kernel
theorem dX8_roundOn_23 : decode cX8_roundOn 23 = .ok (.pop, 1) := by decide +kernel
theorem dX8_roundOn_24 : decode cX8_roundOn 24 = .ok (.iinc 1 1, 3) := by decide +kernel
theorem dX8_roundOn_27 : decode cX8_roundOn 27 = .ok (.goto (-25), 3) := by decide +kernel
theorem dX8_roundOn_30 : decode cX8_roundOn 30 = .ok (.aload_n 0, 1) := by decide +kernel
theorem dX8_roundOn_31 : decode cX8_roundOn 31 = .ok (.invokestatic 43, 3) := by decide +kernel
theorem dX8_roundOn_34 : decode cX8_roundOn 34 = .ok (.aload_n 0, 1) := by decide +kernel
theorem dX8_roundOn_35 : decode cX8_roundOn 35 = .ok (.iconst 0, 1) := by decide +kernel
theorem dX8_roundOn_36 : decode cX8_roundOn 36 = .ok (.iaload, 1) := by decide +kernel
theorem dX8_roundOn_37 : decode cX8_roundOn 37 = .ok (.ireturn, 1) := by decide +kernel
theorem dX8_cutOn_0 : decode cX8_cutOn 0 = .ok (.iload_n 2, 1) := by decide +kernel
theorem dX8_cutOn_1 : decode cX8_cutOn 1 = .ok (.ifCond .ne 73, 3) := by decide +kernel
theorem dX8_cutOn_4 : decode cX8_cutOn 4 = .ok (.aload_n 0, 1) := by decide +kernel
theorem dX8_cutOn_5 : decode cX8_cutOn 5 = .ok (.iload_n 1, 1) := by decide +kernel
theorem dX8_cutOn_6 : decode cX8_cutOn 6 = .ok (.invokestatic 60, 3) := by decide +kernel
theorem dX8_cutOn_9 : decode cX8_cutOn 9 = .ok (.ifCond .eq 65, 3) := by decide +kernel
theorem dX8_cutOn_12 : decode cX8_cutOn 12 = .ok (.aload_n 0, 1) := by decide +kernel
theorem dX8_cutOn_13 : decode cX8_cutOn 13 = .ok (.bipush 38, 2) := by decide +kernel
theorem dX8_cutOn_15 : decode cX8_cutOn 15 = .ok (.iload_n 1, 1) := by decide +kernel
theorem dX8_cutOn_16 : decode cX8_cutOn 16 = .ok (.iadd, 1) := by decide +kernel
theorem dX8_cutOn_17 : decode cX8_cutOn 17 = .ok (.iconst 1, 1) := by decide +kernel
theorem dX8_cutOn_18 : decode cX8_cutOn 18 = .ok (.isub, 1) := by decide +kernel
theorem dX8_cutOn_19 : decode cX8_cutOn 19 = .ok (.iaload, 1) := by decide +kernel
theorem dX8_cutOn_20 : decode cX8_cutOn 20 = .ok (.istore_n 3, 1) := by decide +kernel
theorem dX8_cutOn_21 : decode cX8_cutOn 21 = .ok (.aload_n 0, 1) := by decide +kernel
theorem dX8_cutOn_22 : decode cX8_cutOn 22 = .ok (.iload_n 1, 1) := by decide +kernel
theorem dX8_cutOn_23 : decode cX8_cutOn 23 = .ok (.invokestatic 64, 3) := by decide +kernel
theorem dX8_cutOn_26 : decode cX8_cutOn 26 = .ok (.istore 4, 2) := by decide +kernel
theorem dX8_cutOn_28 : decode cX8_cutOn 28 = .ok (.iload_n 1, 1) := by decide +kernel
theorem dX8_cutOn_29 : decode cX8_cutOn 29 = .ok (.istore 5, 2) := by decide +kernel
theorem dX8_cutOn_31 : decode cX8_cutOn 31 = .ok (.iload 5, 2) := by decide +kernel
theorem dX8_cutOn_33 : decode cX8_cutOn 33 = .ok (.aload_n 0, 1) := by decide +kernel
theorem dX8_cutOn_34 : decode cX8_cutOn 34 = .ok (.iconst 0, 1) := by decide +kernel
theorem dX8_cutOn_35 : decode cX8_cutOn 35 = .ok (.iaload, 1) := by decide +kernel
theorem dX8_cutOn_36 : decode cX8_cutOn 36 = .ok (.if_icmp .ge 38, 3) := by decide +kernel
theorem dX8_cutOn_39 : decode cX8_cutOn 39 = .ok (.aload_n 0, 1) := by decide +kernel
theorem dX8_cutOn_40 : decode cX8_cutOn 40 = .ok (.bipush 38, 2) := by decide +kernel
theorem dX8_cutOn_42 : decode cX8_cutOn 42 = .ok (.iload 5, 2) := by decide +kernel
theorem dX8_cutOn_44 : decode cX8_cutOn 44 = .ok (.iadd, 1) := by decide +kernel
theorem dX8_cutOn_45 : decode cX8_cutOn 45 = .ok (.aload_n 0, 1) := by decide +kernel
theorem dX8_cutOn_46 : decode cX8_cutOn 46 = .ok (.iload 5, 2) := by decide +kernel
theorem dX8_cutOn_48 : decode cX8_cutOn 48 = .ok (.invokestatic 64, 3) := by decide +kernel
theorem dX8_cutOn_51 : decode cX8_cutOn 51 = .ok (.iload 4, 2) := by decide +kernel
theorem dX8_cutOn_53 : decode cX8_cutOn 53 = .ok (.if_icmp .ne 7, 3) := by decide +kernel
theorem dX8_cutOn_56 : decode cX8_cutOn 56 = .ok (.iload_n 3, 1) := by decide +kernel
theorem dX8_cutOn_57 : decode cX8_cutOn 57 = .ok (.goto 10, 3) := by decide +kernel
theorem dX8_cutOn_60 : decode cX8_cutOn 60 = .ok (.aload_n 0, 1) := by decide +kernel
theorem dX8_cutOn_61 : decode cX8_cutOn 61 = .ok (.bipush 38, 2) := by decide +kernel
theorem dX8_cutOn_63 : decode cX8_cutOn 63 = .ok (.iload 5, 2) := by decide +kernel
theorem dX8_cutOn_65 : decode cX8_cutOn 65 = .ok (.iadd, 1) := by decide +kernel
theorem dX8_cutOn_66 : decode cX8_cutOn 66 = .ok (.iaload, 1) := by decide +kernel
theorem dX8_cutOn_67 : decode cX8_cutOn 67 = .ok (.iastore, 1) := by decide +kernel
theorem dX8_cutOn_68 : decode cX8_cutOn 68 = .ok (.iinc 5 1, 3) := by decide +kernel
theorem dX8_cutOn_71 : decode cX8_cutOn 71 = .ok (.goto (-40), 3) := by decide +kernel
theorem dX8_cutOn_74 : decode cX8_cutOn 74 = .ok (.aload_n 0, 1) := by decide +kernel
theorem dX8_cutOn_75 : decode cX8_cutOn 75 = .ok (.iconst 5, 1) := by decide +kernel
theorem dX8_cutOn_76 : decode cX8_cutOn 76 = .ok (.iload_n 2, 1) := by decide +kernel
theorem dX8_cutOn_77 : decode cX8_cutOn 77 = .ok (.ifCond .eq 13, 3) := by decide +kernel
theorem dX8_cutOn_80 : decode cX8_cutOn 80 = .ok (.aload_n 0, 1) := by decide +kernel
theorem dX8_cutOn_81 : decode cX8_cutOn 81 = .ok (.iconst 5, 1) := by decide +kernel
theorem dX8_cutOn_82 : decode cX8_cutOn 82 = .ok (.iaload, 1) := by decide +kernel
theorem dX8_cutOn_83 : decode cX8_cutOn 83 = .ok (.iconst 1, 1) := by decide +kernel
theorem dX8_cutOn_84 : decode cX8_cutOn 84 = .ok (.iload_n 1, 1) := by decide +kernel
theorem dX8_cutOn_85 : decode cX8_cutOn 85 = .ok (.ishl, 1) := by decide +kernel
theorem dX8_cutOn_86 : decode cX8_cutOn 86 = .ok (.ior, 1) := by decide +kernel
theorem dX8_cutOn_87 : decode cX8_cutOn 87 = .ok (.goto 12, 3) := by decide +kernel
theorem dX8_cutOn_90 : decode cX8_cutOn 90 = .ok (.aload_n 0, 1) := by decide +kernel
theorem dX8_cutOn_91 : decode cX8_cutOn 91 = .ok (.iconst 5, 1) := by decide +kernel
theorem dX8_cutOn_92 : decode cX8_cutOn 92 = .ok (.iaload, 1) := by decide +kernel
theorem dX8_cutOn_93 : decode cX8_cutOn 93 = .ok (.iconst 1, 1) := by decide +kernel
theorem dX8_cutOn_94 : decode cX8_cutOn 94 = .ok (.iload_n 1, 1) := by decide +kernel
theorem dX8_cutOn_95 : decode cX8_cutOn 95 = .ok (.ishl, 1) := by decide +kernel
theorem dX8_cutOn_96 : decode cX8_cutOn 96 = .ok (.iconst (-1), 1) := by decide +kernel
theorem dX8_cutOn_97 : decode cX8_cutOn 97 = .ok (.ixor, 1) := by decide +kernel
theorem dX8_cutOn_98 : decode cX8_cutOn 98 = .ok (.iand, 1) := by decide +kernel
theorem dX8_cutOn_99 : decode cX8_cutOn 99 = .ok (.iastore, 1) := by decide +kernel
theorem dX8_cutOn_100 : decode cX8_cutOn 100 = .ok (.aload_n 0, 1) := by decide +kernel
theorem dX8_cutOn_101 : decode cX8_cutOn 101 = .ok (.invokestatic 56, 3) := by decide +kernel
theorem dX8_cutOn_104 : decode cX8_cutOn 104 = .ok (.ireturn, 1) := by decide +kernel
theorem dX8_giveOn_0 : decode cX8_giveOn 0 = .ok (.iconst 0, 1) := by decide +kernel
theorem dX8_giveOn_1 : decode cX8_giveOn 1 = .ok (.istore_n 3, 1) := by decide +kernel
theorem dX8_giveOn_2 : decode cX8_giveOn 2 = .ok (.iload_n 3, 1) := by decide +kernel
theorem dX8_giveOn_3 : decode cX8_giveOn 3 = .ok (.aload_n 0, 1) := by decide +kernel
theorem dX8_giveOn_4 : decode cX8_giveOn 4 = .ok (.iconst 0, 1) := by decide +kernel
theorem dX8_giveOn_5 : decode cX8_giveOn 5 = .ok (.iaload, 1) := by decide +kernel
theorem dX8_giveOn_6 : decode cX8_giveOn 6 = .ok (.if_icmp .ge 34, 3) := by decide +kernel
theorem dX8_giveOn_9 : decode cX8_giveOn 9 = .ok (.aload_n 0, 1) := by decide +kernel
theorem dX8_giveOn_10 : decode cX8_giveOn 10 = .ok (.bipush 38, 2) := by decide +kernel
theorem dX8_giveOn_12 : decode cX8_giveOn 12 = .ok (.iload_n 3, 1) := by decide +kernel
theorem dX8_giveOn_13 : decode cX8_giveOn 13 = .ok (.iadd, 1) := by decide +kernel
theorem dX8_giveOn_14 : decode cX8_giveOn 14 = .ok (.aload_n 0, 1) := by decide +kernel
theorem dX8_giveOn_15 : decode cX8_giveOn 15 = .ok (.iload_n 3, 1) := by decide +kernel
theorem dX8_giveOn_16 : decode cX8_giveOn 16 = .ok (.invokestatic 64, 3) := by decide +kernel
theorem dX8_giveOn_19 : decode cX8_giveOn 19 = .ok (.iload_n 1, 1) := by decide +kernel
theorem dX8_giveOn_20 : decode cX8_giveOn 20 = .ok (.if_icmp .ne 7, 3) := by decide +kernel
theorem dX8_giveOn_23 : decode cX8_giveOn 23 = .ok (.iload_n 2, 1) := by decide +kernel
theorem dX8_giveOn_24 : decode cX8_giveOn 24 = .ok (.goto 9, 3) := by decide +kernel
theorem dX8_giveOn_27 : decode cX8_giveOn 27 = .ok (.aload_n 0, 1) := by decide +kernel
theorem dX8_giveOn_28 : decode cX8_giveOn 28 = .ok (.bipush 38, 2) := by decide +kernel
theorem dX8_giveOn_30 : decode cX8_giveOn 30 = .ok (.iload_n 3, 1) := by decide +kernel
theorem dX8_giveOn_31 : decode cX8_giveOn 31 = .ok (.iadd, 1) := by decide +kernel
theorem dX8_giveOn_32 : decode cX8_giveOn 32 = .ok (.iaload, 1) := by decide +kernel
theorem dX8_giveOn_33 : decode cX8_giveOn 33 = .ok (.iastore, 1) := by decide +kernel
theorem dX8_giveOn_34 : decode cX8_giveOn 34 = .ok (.iinc 3 1, 3) := by decide +kernel
theorem dX8_giveOn_37 : decode cX8_giveOn 37 = .ok (.goto (-35), 3) := by decide +kernel
theorem dX8_giveOn_40 : decode cX8_giveOn 40 = .ok (.aload_n 0, 1) := by decide +kernel
theorem dX8_giveOn_41 : decode cX8_giveOn 41 = .ok (.invokestatic 95, 3) := by decide +kernel
theorem dX8_giveOn_44 : decode cX8_giveOn 44 = .ok (.ireturn, 1) := by decide +kernel
theorem dX8_whyNot_0 : decode cX8_whyNot 0 = .ok (.aload_n 0, 1) := by decide +kernel
theorem dX8_whyNot_1 : decode cX8_whyNot 1 = .ok (.bipush 38, 2) := by decide +kernel
theorem dX8_whyNot_3 : decode cX8_whyNot 3 = .ok (.aload_n 0, 1) := by decide +kernel
theorem dX8_whyNot_4 : decode cX8_whyNot 4 = .ok (.iload_n 1, 1) := by decide +kernel
theorem dX8_whyNot_5 : decode cX8_whyNot 5 = .ok (.invokestatic 101, 3) := by decide +kernel
theorem dX8_whyNot_8 : decode cX8_whyNot 8 = .ok (.iadd, 1) := by decide +kernel
theorem dX8_whyNot_9 : decode cX8_whyNot 9 = .ok (.iaload, 1) := by decide +kernel
theorem dX8_whyNot_10 : decode cX8_whyNot 10 = .ok (.istore_n 2, 1) := by decide +kernel
theorem dX8_whyNot_11 : decode cX8_whyNot 11 = .ok (.iload_n 2, 1) := by decide +kernel
theorem dX8_whyNot_12 : decode cX8_whyNot 12 = .ok (.iconst (-1), 1) := by decide +kernel
theorem dX8_whyNot_13 : decode cX8_whyNot 13 = .ok (.if_icmp .ne 7, 3) := by decide +kernel
theorem dX8_whyNot_16 : decode cX8_whyNot 16 = .ok (.iconst 0, 1) := by decide +kernel
theorem dX8_whyNot_17 : decode cX8_whyNot 17 = .ok (.goto 15, 3) := by decide +kernel
theorem dX8_whyNot_20 : decode cX8_whyNot 20 = .ok (.iload_n 2, 1) := by decide +kernel
theorem dX8_whyNot_21 : decode cX8_whyNot 21 = .ok (.aload_n 0, 1) := by decide +kernel
theorem dX8_whyNot_22 : decode cX8_whyNot 22 = .ok (.iconst 2, 1) := by decide +kernel
theorem dX8_whyNot_23 : decode cX8_whyNot 23 = .ok (.iaload, 1) := by decide +kernel
theorem dX8_whyNot_24 : decode cX8_whyNot 24 = .ok (.if_icmp .ne 7, 3) := by decide +kernel
theorem dX8_whyNot_27 : decode cX8_whyNot 27 = .ok (.iconst 2, 1) := by decide +kernel
theorem dX8_whyNot_28 : decode cX8_whyNot 28 = .ok (.goto 4, 3) := by decide +kernel
theorem dX8_whyNot_31 : decode cX8_whyNot 31 = .ok (.iconst 1, 1) := by decide +kernel
theorem dX8_whyNot_32 : decode cX8_whyNot 32 = .ok (.ireturn, 1) := by decide +kernel
theorem dX8_takeOn_0 : decode cX8_takeOn 0 = .ok (.aload_n 0, 1) := by decide +kernel
theorem dX8_takeOn_1 : decode cX8_takeOn 1 = .ok (.iload_n 1, 1) := by decide +kernel
theorem dX8_takeOn_2 : decode cX8_takeOn 2 = .ok (.invokestatic 104, 3) := by decide +kernel
theorem dX8_takeOn_5 : decode cX8_takeOn 5 = .ok (.istore_n 2, 1) := by decide +kernel
theorem dX8_takeOn_6 : decode cX8_takeOn 6 = .ok (.iload_n 2, 1) := by decide +kernel
theorem dX8_takeOn_7 : decode cX8_takeOn 7 = .ok (.ifCond .ne 23, 3) := by decide +kernel
theorem dX8_takeOn_10 : decode cX8_takeOn 10 = .ok (.aload_n 0, 1) := by decide +kernel
theorem dX8_takeOn_11 : decode cX8_takeOn 11 = .ok (.iload_n 1, 1) := by decide +kernel
theorem dX8_takeOn_12 : decode cX8_takeOn 12 = .ok (.aload_n 0, 1) := by decide +kernel
theorem dX8_takeOn_13 : decode cX8_takeOn 13 = .ok (.iconst 2, 1) := by decide +kernel
theorem dX8_takeOn_14 : decode cX8_takeOn 14 = .ok (.iaload, 1) := by decide +kernel
theorem dX8_takeOn_15 : decode cX8_takeOn 15 = .ok (.invokestatic 107, 3) := by decide +kernel
theorem dX8_takeOn_18 : decode cX8_takeOn 18 = .ok (.pop, 1) := by decide +kernel
theorem dX8_takeOn_19 : decode cX8_takeOn 19 = .ok (.aload_n 0, 1) := by decide +kernel
theorem dX8_takeOn_20 : decode cX8_takeOn 20 = .ok (.iconst 2, 1) := by decide +kernel
theorem dX8_takeOn_21 : decode cX8_takeOn 21 = .ok (.iconst 1, 1) := by decide +kernel
theorem dX8_takeOn_22 : decode cX8_takeOn 22 = .ok (.aload_n 0, 1) := by decide +kernel
theorem dX8_takeOn_23 : decode cX8_takeOn 23 = .ok (.iconst 2, 1) := by decide +kernel
theorem dX8_takeOn_24 : decode cX8_takeOn 24 = .ok (.iaload, 1) := by decide +kernel
theorem dX8_takeOn_25 : decode cX8_takeOn 25 = .ok (.isub, 1) := by decide +kernel
theorem dX8_takeOn_26 : decode cX8_takeOn 26 = .ok (.iastore, 1) := by decide +kernel
theorem dX8_takeOn_27 : decode cX8_takeOn 27 = .ok (.goto 10, 3) := by decide +kernel
theorem dX8_takeOn_30 : decode cX8_takeOn 30 = .ok (.aload_n 0, 1) := by decide +kernel
theorem dX8_takeOn_31 : decode cX8_takeOn 31 = .ok (.iconst 3, 1) := by decide +kernel
theorem dX8_takeOn_32 : decode cX8_takeOn 32 = .ok (.dup2, 1) := by decide +kernel
theorem dX8_takeOn_33 : decode cX8_takeOn 33 = .ok (.iaload, 1) := by decide +kernel
theorem dX8_takeOn_34 : decode cX8_takeOn 34 = .ok (.iconst 1, 1) := by decide +kernel
theorem dX8_takeOn_35 : decode cX8_takeOn 35 = .ok (.iadd, 1) := by decide +kernel
theorem dX8_takeOn_36 : decode cX8_takeOn 36 = .ok (.iastore, 1) := by decide +kernel
theorem dX8_takeOn_37 : decode cX8_takeOn 37 = .ok (.iload_n 2, 1) := by decide +kernel
theorem dX8_takeOn_38 : decode cX8_takeOn 38 = .ok (.ireturn, 1) := by decide +kernel
theorem dX8_dealOn_0 : decode cX8_dealOn 0 = .ok (.iconst 0, 1) := by decide +kernel
theorem dX8_dealOn_1 : decode cX8_dealOn 1 = .ok (.istore_n 2, 1) := by decide +kernel
theorem dX8_dealOn_2 : decode cX8_dealOn 2 = .ok (.iload_n 2, 1) := by decide +kernel
theorem dX8_dealOn_3 : decode cX8_dealOn 3 = .ok (.aload_n 0, 1) := by decide +kernel
theorem dX8_dealOn_4 : decode cX8_dealOn 4 = .ok (.iconst 0, 1) := by decide +kernel
theorem dX8_dealOn_5 : decode cX8_dealOn 5 = .ok (.iaload, 1) := by decide +kernel
theorem dX8_dealOn_6 : decode cX8_dealOn 6 = .ok (.if_icmp .ge 24, 3) := by decide +kernel
theorem dX8_dealOn_9 : decode cX8_dealOn 9 = .ok (.aload_n 0, 1) := by decide +kernel
theorem dX8_dealOn_10 : decode cX8_dealOn 10 = .ok (.bipush 38, 2) := by decide +kernel
theorem dX8_dealOn_12 : decode cX8_dealOn 12 = .ok (.iload_n 2, 1) := by decide +kernel
theorem dX8_dealOn_13 : decode cX8_dealOn 13 = .ok (.iadd, 1) := by decide +kernel
theorem dX8_dealOn_14 : decode cX8_dealOn 14 = .ok (.iload_n 1, 1) := by decide +kernel
theorem dX8_dealOn_15 : decode cX8_dealOn 15 = .ok (.aload_n 0, 1) := by decide +kernel
theorem dX8_dealOn_16 : decode cX8_dealOn 16 = .ok (.iload_n 2, 1) := by decide +kernel
theorem dX8_dealOn_17 : decode cX8_dealOn 17 = .ok (.invokestatic 64, 3) := by decide +kernel
theorem dX8_dealOn_20 : decode cX8_dealOn 20 = .ok (.iadd, 1) := by decide +kernel
theorem dX8_dealOn_21 : decode cX8_dealOn 21 = .ok (.iconst 2, 1) := by decide +kernel
theorem dX8_dealOn_22 : decode cX8_dealOn 22 = .ok (.irem, 1) := by decide +kernel
theorem dX8_dealOn_23 : decode cX8_dealOn 23 = .ok (.iastore, 1) := by decide +kernel
theorem dX8_dealOn_24 : decode cX8_dealOn 24 = .ok (.iinc 2 1, 3) := by decide +kernel
theorem dX8_dealOn_27 : decode cX8_dealOn 27 = .ok (.goto (-25), 3) := by decide +kernel
theorem dX8_dealOn_30 : decode cX8_dealOn 30 = .ok (.aload_n 0, 1) := by decide +kernel
theorem dX8_dealOn_31 : decode cX8_dealOn 31 = .ok (.invokestatic 95, 3) := by decide +kernel
theorem dX8_dealOn_34 : decode cX8_dealOn 34 = .ok (.ireturn, 1) := by decide +kernel
theorem dX8_append_0 : decode cX8_append 0 = .ok (.aload_n 0, 1) := by decide +kernel
theorem dX8_append_1 : decode cX8_append 1 = .ok (.iload_n 1, 1) := by decide +kernel
theorem dX8_append_2 : decode cX8_append 2 = .ok (.i2l, 1) := by decide +kernel
theorem dX8_append_3 : decode cX8_append 3 = .ok (.lconst 0, 1) := by decide +kernel
theorem dX8_append_4 : decode cX8_append 4 = .ok (.ldc2_w 110, 3) := by decide +kernel
theorem dX8_append_7 : decode cX8_append 7 = .ok (.invokestatic 46, 3) := by decide +kernel
theorem dX8_append_10 : decode cX8_append 10 = .ok (.ifCond .ne 7, 3) := by decide +kernel
theorem dX8_append_13 : decode cX8_append 13 = .ok (.iconst 1, 1) := by decide +kernel
theorem dX8_append_14 : decode cX8_append 14 = .ok (.goto 17, 3) := by decide +kernel
theorem dX8_append_17 : decode cX8_append 17 = .ok (.aload_n 0, 1) := by decide +kernel
theorem dX8_append_18 : decode cX8_append 18 = .ok (.getfield 112, 3) := by decide +kernel
theorem dX8_append_21 : decode cX8_append 21 = .ok (.bipush 120, 2) := by decide +kernel
theorem dX8_append_23 : decode cX8_append 23 = .ok (.if_icmp .ne 7, 3) := by decide +kernel
theorem dX8_append_26 : decode cX8_append 26 = .ok (.iconst 2, 1) := by decide +kernel
theorem dX8_append_27 : decode cX8_append 27 = .ok (.goto 4, 3) := by decide +kernel
theorem dX8_append_30 : decode cX8_append 30 = .ok (.iconst 0, 1) := by decide +kernel
theorem dX8_append_31 : decode cX8_append 31 = .ok (.invokevirtual 115, 3) := by decide +kernel
theorem dX8_append_34 : decode cX8_append 34 = .ok (.ifCond .eq 5, 3) := by decide +kernel
theorem dX8_append_37 : decode cX8_append 37 = .ok (.iconst 0, 1) := by decide +kernel
theorem dX8_append_38 : decode cX8_append 38 = .ok (.ireturn, 1) := by decide +kernel
theorem dX8_append_39 : decode cX8_append 39 = .ok (.aload_n 0, 1) := by decide +kernel
theorem dX8_append_40 : decode cX8_append 40 = .ok (.getfield 7, 3) := by decide +kernel
theorem dX8_append_43 : decode cX8_append 43 = .ok (.aload_n 0, 1) := by decide +kernel
theorem dX8_append_44 : decode cX8_append 44 = .ok (.getfield 112, 3) := by decide +kernel
theorem dX8_append_47 : decode cX8_append 47 = .ok (.iload_n 1, 1) := by decide +kernel
theorem dX8_append_48 : decode cX8_append 48 = .ok (.iastore, 1) := by decide +kernel
theorem dX8_append_49 : decode cX8_append 49 = .ok (.aload_n 0, 1) := by decide +kernel
theorem dX8_append_50 : decode cX8_append 50 = .ok (.dup, 1) := by decide +kernel
theorem dX8_append_51 : decode cX8_append 51 = .ok (.getfield 112, 3) := by decide +kernel
theorem dX8_append_54 : decode cX8_append 54 = .ok (.iconst 1, 1) := by decide +kernel
theorem dX8_append_55 : decode cX8_append 55 = .ok (.iadd, 1) := by decide +kernel
theorem dX8_append_56 : decode cX8_append 56 = .ok (.putfield 112, 3) := by decide +kernel
theorem dX8_append_59 : decode cX8_append 59 = .ok (.aload_n 0, 1) := by decide +kernel
theorem dX8_append_60 : decode cX8_append 60 = .ok (.getfield 112, 3) := by decide +kernel
theorem dX8_append_63 : decode cX8_append 63 = .ok (.ireturn, 1) := by decide +kernel
theorem dX8_clearText_0 : decode cX8_clearText 0 = .ok (.aload_n 0, 1) := by decide +kernel
theorem dX8_clearText_1 : decode cX8_clearText 1 = .ok (.iconst 0, 1) := by decide +kernel
theorem dX8_clearText_2 : decode cX8_clearText 2 = .ok (.putfield 39, 3) := by decide +kernel
theorem dX8_clearText_5 : decode cX8_clearText 5 = .ok (.aload_n 0, 1) := by decide +kernel
theorem dX8_clearText_6 : decode cX8_clearText 6 = .ok (.getfield 112, 3) := by decide +kernel
theorem dX8_clearText_9 : decode cX8_clearText 9 = .ok (.istore_n 1, 1) := by decide +kernel
theorem dX8_clearText_10 : decode cX8_clearText 10 = .ok (.aload_n 0, 1) := by decide +kernel
theorem dX8_clearText_11 : decode cX8_clearText 11 = .ok (.iconst 0, 1) := by decide +kernel
theorem dX8_clearText_12 : decode cX8_clearText 12 = .ok (.putfield 112, 3) := by decide +kernel
theorem dX8_clearText_15 : decode cX8_clearText 15 = .ok (.iload_n 1, 1) := by decide +kernel
theorem dX8_clearText_16 : decode cX8_clearText 16 = .ok (.ireturn, 1) := by decide +kernel
theorem dX8_figures_0 : decode cX8_figures 0 = .ok (.iconst 0, 1) := by decide +kernel
theorem dX8_figures_1 : decode cX8_figures 1 = .ok (.istore 5, 2) := by decide +kernel
theorem dX8_figures_3 : decode cX8_figures 3 = .ok (.iload_n 2, 1) := by decide +kernel
theorem dX8_figures_4 : decode cX8_figures 4 = .ok (.iconst 2, 1) := by decide +kernel
theorem dX8_figures_5 : decode cX8_figures 5 = .ok (.if_icmp .ne 8, 3) := by decide +kernel
theorem dX8_figures_8 : decode cX8_figures 8 = .ok (.bipush 10, 2) := by decide +kernel
theorem dX8_figures_10 : decode cX8_figures 10 = .ok (.goto 4, 3) := by decide +kernel
theorem dX8_figures_13 : decode cX8_figures 13 = .ok (.iconst 1, 1) := by decide +kernel
theorem dX8_figures_14 : decode cX8_figures 14 = .ok (.istore 6, 2) := by decide +kernel
theorem dX8_figures_16 : decode cX8_figures 16 = .ok (.iload 6, 2) := by decide +kernel
theorem dX8_figures_18 : decode cX8_figures 18 = .ok (.ifCond .le 104, 3) := by decide +kernel
theorem dX8_figures_21 : decode cX8_figures 21 = .ok (.iload_n 1, 1) := by decide +kernel
theorem dX8_figures_22 : decode cX8_figures 22 = .ok (.iconst (-1), 1) := by decide +kernel
theorem dX8_figures_23 : decode cX8_figures 23 = .ok (.if_icmp .eq 99, 3) := by decide +kernel
theorem dX8_figures_26 : decode cX8_figures 26 = .ok (.aload_n 0, 1) := by decide +kernel
theorem dX8_figures_27 : decode cX8_figures 27 = .ok (.getfield 119, 3) := by decide +kernel
theorem dX8_figures_30 : decode cX8_figures 30 = .ok (.aload_n 0, 1) := by decide +kernel
theorem dX8_figures_31 : decode cX8_figures 31 = .ok (.getfield 112, 3) := by decide +kernel
theorem dX8_figures_34 : decode cX8_figures 34 = .ok (.if_icmp .ge 18, 3) := by decide +kernel
theorem dX8_figures_37 : decode cX8_figures 37 = .ok (.aload_n 0, 1) := by decide +kernel
theorem dX8_figures_38 : decode cX8_figures 38 = .ok (.getfield 7, 3) := by decide +kernel
theorem dX8_figures_41 : decode cX8_figures 41 = .ok (.aload_n 0, 1) := by decide +kernel
theorem dX8_figures_42 : decode cX8_figures 42 = .ok (.getfield 119, 3) := by decide +kernel
theorem dX8_figures_45 : decode cX8_figures 45 = .ok (.iaload, 1) := by decide +kernel
theorem dX8_figures_46 : decode cX8_figures 46 = .ok (.bipush 48, 2) := by decide +kernel
theorem dX8_figures_48 : decode cX8_figures 48 = .ok (.isub, 1) := by decide +kernel
theorem dX8_figures_49 : decode cX8_figures 49 = .ok (.goto 4, 3) := by decide +kernel
theorem dX8_figures_52 : decode cX8_figures 52 = .ok (.iconst (-1), 1) := by decide +kernel
theorem dX8_figures_53 : decode cX8_figures 53 = .ok (.istore 7, 2) := by decide +kernel
theorem dX8_figures_55 : decode cX8_figures 55 = .ok (.iload 5, 2) := by decide +kernel
theorem dX8_figures_57 : decode cX8_figures 57 = .ok (.iload 7, 2) := by decide +kernel
theorem dX8_figures_59 : decode cX8_figures 59 = .ok (.iload 6, 2) := by decide +kernel
theorem dX8_figures_61 : decode cX8_figures 61 = .ok (.imul, 1) := by decide +kernel
theorem dX8_figures_62 : decode cX8_figures 62 = .ok (.iadd, 1) := by decide +kernel
theorem dX8_figures_63 : decode cX8_figures 63 = .ok (.istore 8, 2) := by decide +kernel
theorem dX8_figures_65 : decode cX8_figures 65 = .ok (.iload 7, 2) := by decide +kernel
theorem dX8_figures_67 : decode cX8_figures 67 = .ok (.i2l, 1) := by decide +kernel
theorem dX8_figures_68 : decode cX8_figures 68 = .ok (.lconst 0, 1) := by decide +kernel
theorem dX8_figures_69 : decode cX8_figures 69 = .ok (.ldc2_w 122, 3) := by decide +kernel
theorem dX8_figures_72 : decode cX8_figures 72 = .ok (.invokestatic 46, 3) := by decide +kernel
theorem dX8_figures_75 : decode cX8_figures 75 = .ok (.ifCond .eq 21, 3) := by decide +kernel
theorem dX8_figures_78 : decode cX8_figures 78 = .ok (.iload 8, 2) := by decide +kernel
theorem dX8_figures_80 : decode cX8_figures 80 = .ok (.iload 4, 2) := by decide +kernel
theorem dX8_figures_82 : decode cX8_figures 82 = .ok (.if_icmp .gt 14, 3) := by decide +kernel
theorem dX8_figures_85 : decode cX8_figures 85 = .ok (.iload 8, 2) := by decide +kernel
theorem dX8_figures_87 : decode cX8_figures 87 = .ok (.iload 6, 2) := by decide +kernel
theorem dX8_figures_89 : decode cX8_figures 89 = .ok (.iadd, 1) := by decide +kernel
theorem dX8_figures_90 : decode cX8_figures 90 = .ok (.iconst 1, 1) := by decide +kernel
theorem dX8_figures_91 : decode cX8_figures 91 = .ok (.isub, 1) := by decide +kernel
theorem dX8_figures_92 : decode cX8_figures 92 = .ok (.iload_n 3, 1) := by decide +kernel
theorem dX8_figures_93 : decode cX8_figures 93 = .ok (.if_icmp .ge 5, 3) := by decide +kernel
theorem dX8_figures_96 : decode cX8_figures 96 = .ok (.iconst (-1), 1) := by decide +kernel
theorem dX8_figures_97 : decode cX8_figures 97 = .ok (.ireturn, 1) := by decide +kernel
theorem dX8_figures_98 : decode cX8_figures 98 = .ok (.iload 8, 2) := by decide +kernel
theorem dX8_figures_100 : decode cX8_figures 100 = .ok (.istore 5, 2) := by decide +kernel
theorem dX8_figures_102 : decode cX8_figures 102 = .ok (.aload_n 0, 1) := by decide +kernel
theorem dX8_figures_103 : decode cX8_figures 103 = .ok (.dup, 1) := by decide +kernel
theorem dX8_figures_104 : decode cX8_figures 104 = .ok (.getfield 119, 3) := by decide +kernel
theorem dX8_figures_107 : decode cX8_figures 107 = .ok (.iconst 1, 1) := by decide +kernel
theorem dX8_figures_108 : decode cX8_figures 108 = .ok (.iadd, 1) := by decide +kernel
theorem dX8_figures_109 : decode cX8_figures 109 = .ok (.putfield 119, 3) := by decide +kernel
theorem dX8_figures_112 : decode cX8_figures 112 = .ok (.iload 6, 2) := by decide +kernel
theorem dX8_figures_114 : decode cX8_figures 114 = .ok (.bipush 10, 2) := by decide +kernel
theorem dX8_figures_116 : decode cX8_figures 116 = .ok (.idiv, 1) := by decide +kernel
theorem dX8_figures_117 : decode cX8_figures 117 = .ok (.istore 6, 2) := by decide +kernel
theorem dX8_figures_119 : decode cX8_figures 119 = .ok (.goto (-103), 3) := by decide +kernel
theorem dX8_figures_122 : decode cX8_figures 122 = .ok (.iload_n 1, 1) := by decide +kernel
theorem dX8_figures_123 : decode cX8_figures 123 = .ok (.iconst (-1), 1) := by decide +kernel
theorem dX8_figures_124 : decode cX8_figures 124 = .ok (.if_icmp .ne 7, 3) := by decide +kernel
theorem dX8_figures_127 : decode cX8_figures 127 = .ok (.iconst (-1), 1) := by decide +kernel
theorem dX8_figures_128 : decode cX8_figures 128 = .ok (.goto 5, 3) := by decide +kernel
theorem dX8_figures_131 : decode cX8_figures 131 = .ok (.iload 5, 2) := by decide +kernel
theorem dX8_figures_133 : decode cX8_figures 133 = .ok (.ireturn, 1) := by decide +kernel
theorem dX8_done_0 : decode cX8_done 0 = .ok (.aload_n 0, 1) := by decide +kernel
theorem dX8_done_1 : decode cX8_done 1 = .ok (.dup, 1) := by decide +kernel
theorem dX8_done_2 : decode cX8_done 2 = .ok (.getfield 124, 3) := by decide +kernel
theorem dX8_done_5 : decode cX8_done 5 = .ok (.iload_n 1, 1) := by decide +kernel
theorem dX8_done_6 : decode cX8_done 6 = .ok (.ifCond .eq 7, 3) := by decide +kernel
theorem dX8_done_9 : decode cX8_done 9 = .ok (.iconst 0, 1) := by decide +kernel
theorem dX8_done_10 : decode cX8_done 10 = .ok (.goto 4, 3) := by decide +kernel
theorem dX8_done_13 : decode cX8_done 13 = .ok (.iconst 1, 1) := by decide +kernel
theorem dX8_done_14 : decode cX8_done 14 = .ok (.iadd, 1) := by decide +kernel
theorem dX8_done_15 : decode cX8_done 15 = .ok (.putfield 124, 3) := by decide +kernel
theorem dX8_done_18 : decode cX8_done 18 = .ok (.iconst 1, 1) := by decide +kernel
theorem dX8_done_19 : decode cX8_done 19 = .ok (.ireturn, 1) := by decide +kernel
theorem dX8_readJewel_0 : decode cX8_readJewel 0 = .ok (.aload_n 0, 1) := by decide +kernel
theorem dX8_readJewel_1 : decode cX8_readJewel 1 = .ok (.getfield 119, 3) := by decide +kernel
theorem dX8_readJewel_4 : decode cX8_readJewel 4 = .ok (.aload_n 0, 1) := by decide +kernel
theorem dX8_readJewel_5 : decode cX8_readJewel 5 = .ok (.getfield 112, 3) := by decide +kernel
theorem dX8_readJewel_8 : decode cX8_readJewel 8 = .ok (.if_icmp .ge 18, 3) := by decide +kernel
theorem dX8_readJewel_11 : decode cX8_readJewel 11 = .ok (.aload_n 0, 1) := by decide +kernel
theorem dX8_readJewel_12 : decode cX8_readJewel 12 = .ok (.getfield 7, 3) := by decide +kernel
theorem dX8_readJewel_15 : decode cX8_readJewel 15 = .ok (.aload_n 0, 1) := by decide +kernel
theorem dX8_readJewel_16 : decode cX8_readJewel 16 = .ok (.getfield 119, 3) := by decide +kernel
theorem dX8_readJewel_19 : decode cX8_readJewel 19 = .ok (.iaload, 1) := by decide +kernel
theorem dX8_readJewel_20 : decode cX8_readJewel 20 = .ok (.bipush 97, 2) := by decide +kernel
theorem dX8_readJewel_22 : decode cX8_readJewel 22 = .ok (.isub, 1) := by decide +kernel
theorem dX8_readJewel_23 : decode cX8_readJewel 23 = .ok (.goto 4, 3) := by decide +kernel
theorem dX8_readJewel_26 : decode cX8_readJewel 26 = .ok (.iconst (-1), 1) := by decide +kernel
theorem dX8_readJewel_27 : decode cX8_readJewel 27 = .ok (.istore_n 2, 1) := by decide +kernel
theorem dX8_readJewel_28 : decode cX8_readJewel 28 = .ok (.iload_n 2, 1) := by decide +kernel
theorem dX8_readJewel_29 : decode cX8_readJewel 29 = .ok (.i2l, 1) := by decide +kernel
theorem dX8_readJewel_30 : decode cX8_readJewel 30 = .ok (.lconst 0, 1) := by decide +kernel
theorem dX8_readJewel_31 : decode cX8_readJewel 31 = .ok (.ldc2_w 127, 3) := by decide +kernel
theorem dX8_readJewel_34 : decode cX8_readJewel 34 = .ok (.invokestatic 46, 3) := by decide +kernel
theorem dX8_readJewel_37 : decode cX8_readJewel 37 = .ok (.ifCond .ne 5, 3) := by decide +kernel
theorem dX8_readJewel_40 : decode cX8_readJewel 40 = .ok (.iconst 0, 1) := by decide +kernel
theorem dX8_readJewel_41 : decode cX8_readJewel 41 = .ok (.ireturn, 1) := by decide +kernel
theorem dX8_readJewel_42 : decode cX8_readJewel 42 = .ok (.aload_n 0, 1) := by decide +kernel
theorem dX8_readJewel_43 : decode cX8_readJewel 43 = .ok (.dup, 1) := by decide +kernel
theorem dX8_readJewel_44 : decode cX8_readJewel 44 = .ok (.getfield 119, 3) := by decide +kernel
theorem dX8_readJewel_47 : decode cX8_readJewel 47 = .ok (.iconst 1, 1) := by decide +kernel
theorem dX8_readJewel_48 : decode cX8_readJewel 48 = .ok (.iadd, 1) := by decide +kernel
theorem dX8_readJewel_49 : decode cX8_readJewel 49 = .ok (.putfield 119, 3) := by decide +kernel
theorem dX8_readJewel_52 : decode cX8_readJewel 52 = .ok (.aload_n 0, 1) := by decide +kernel
theorem dX8_readJewel_53 : decode cX8_readJewel 53 = .ok (.iconst 0, 1) := by decide +kernel
theorem dX8_readJewel_54 : decode cX8_readJewel 54 = .ok (.iconst 1, 1) := by decide +kernel
theorem dX8_readJewel_55 : decode cX8_readJewel 55 = .ok (.iconst 1, 1) := by decide +kernel
theorem dX8_readJewel_56 : decode cX8_readJewel 56 = .ok (.bipush 9, 2) := by decide +kernel
theorem dX8_readJewel_58 : decode cX8_readJewel 58 = .ok (.invokevirtual 129, 3) := by decide +kernel
theorem dX8_readJewel_61 : decode cX8_readJewel 61 = .ok (.istore_n 3, 1) := by decide +kernel
theorem dX8_readJewel_62 : decode cX8_readJewel 62 = .ok (.iload_n 3, 1) := by decide +kernel
theorem dX8_readJewel_63 : decode cX8_readJewel 63 = .ok (.iconst (-1), 1) := by decide +kernel
theorem dX8_readJewel_64 : decode cX8_readJewel 64 = .ok (.if_icmp .eq 36, 3) := by decide +kernel
theorem dX8_readJewel_67 : decode cX8_readJewel 67 = .ok (.aload_n 0, 1) := by decide +kernel
theorem dX8_readJewel_68 : decode cX8_readJewel 68 = .ok (.aload_n 1, 1) := by decide +kernel
theorem dX8_readJewel_69 : decode cX8_readJewel 69 = .ok (.iconst 0, 1) := by decide +kernel
theorem dX8_readJewel_70 : decode cX8_readJewel 70 = .ok (.iaload, 1) := by decide +kernel
theorem dX8_readJewel_71 : decode cX8_readJewel 71 = .ok (.bipush 16, 2) := by decide +kernel
theorem dX8_readJewel_73 : decode cX8_readJewel 73 = .ok (.if_icmp .ge 16, 3) := by decide +kernel
theorem dX8_readJewel_76 : decode cX8_readJewel 76 = .ok (.aload_n 1, 1) := by decide +kernel
theorem dX8_readJewel_77 : decode cX8_readJewel 77 = .ok (.iload_n 2, 1) := by decide +kernel
theorem dX8_readJewel_78 : decode cX8_readJewel 78 = .ok (.iload_n 3, 1) := by decide +kernel
theorem dX8_readJewel_79 : decode cX8_readJewel 79 = .ok (.invokestatic 133, 3) := by decide +kernel
theorem dX8_readJewel_82 : decode cX8_readJewel 82 = .ok (.ifCond .lt 7, 3) := by decide +kernel
theorem dX8_readJewel_85 : decode cX8_readJewel 85 = .ok (.iconst 1, 1) := by decide +kernel
theorem dX8_readJewel_86 : decode cX8_readJewel 86 = .ok (.goto 4, 3) := by decide +kernel
theorem dX8_readJewel_89 : decode cX8_readJewel 89 = .ok (.iconst 0, 1) := by decide +kernel
theorem dX8_readJewel_90 : decode cX8_readJewel 90 = .ok (.invokevirtual 136, 3) := by decide +kernel
theorem dX8_readJewel_93 : decode cX8_readJewel 93 = .ok (.ifCond .eq 7, 3) := by decide +kernel
theorem dX8_readJewel_96 : decode cX8_readJewel 96 = .ok (.iconst 1, 1) := by decide +kernel
theorem dX8_readJewel_97 : decode cX8_readJewel 97 = .ok (.goto 4, 3) := by decide +kernel
theorem dX8_readJewel_100 : decode cX8_readJewel 100 = .ok (.iconst 0, 1) := by decide +kernel
theorem dX8_readJewel_101 : decode cX8_readJewel 101 = .ok (.ireturn, 1) := by decide +kernel
theorem dX8_readCommand_0 : decode cX8_readCommand 0 = .ok (.aload_n 0, 1) := by decide +kernel
theorem dX8_readCommand_1 : decode cX8_readCommand 1 = .ok (.getfield 7, 3) := by decide +kernel
theorem dX8_readCommand_4 : decode cX8_readCommand 4 = .ok (.aload_n 0, 1) := by decide +kernel
theorem dX8_readCommand_5 : decode cX8_readCommand 5 = .ok (.getfield 119, 3) := by decide +kernel
theorem dX8_readCommand_8 : decode cX8_readCommand 8 = .ok (.iaload, 1) := by decide +kernel
theorem dX8_readCommand_9 : decode cX8_readCommand 9 = .ok (.istore_n 2, 1) := by decide +kernel
theorem dX8_readCommand_10 : decode cX8_readCommand 10 = .ok (.aload_n 0, 1) := by decide +kernel
theorem dX8_readCommand_11 : decode cX8_readCommand 11 = .ok (.dup, 1) := by decide +kernel
theorem dX8_readCommand_12 : decode cX8_readCommand 12 = .ok (.getfield 119, 3) := by decide +kernel
theorem dX8_readCommand_15 : decode cX8_readCommand 15 = .ok (.iconst 1, 1) := by decide +kernel
theorem dX8_readCommand_16 : decode cX8_readCommand 16 = .ok (.iadd, 1) := by decide +kernel
theorem dX8_readCommand_17 : decode cX8_readCommand 17 = .ok (.putfield 119, 3) := by decide +kernel
theorem dX8_readCommand_20 : decode cX8_readCommand 20 = .ok (.iload_n 2, 1) := by decide +kernel
theorem dX8_readCommand_21 : decode cX8_readCommand 21 = .ok (.tableswitch 427 98 116 #[97, 146, 335, 427, 427, 206, 427, 427, 91, 427, 427, 146, 427, 427, 427, 427, 410, 375, 278], 91) := by decide +kernel
theorem dX8_readCommand_112 : decode cX8_readCommand 112 = .ok (.aload_n 0, 1) := by decide +kernel
theorem dX8_readCommand_113 : decode cX8_readCommand 113 = .ok (.aload_n 1, 1) := by decide +kernel
theorem dX8_readCommand_114 : decode cX8_readCommand 114 = .ok (.invokevirtual 140, 3) := by decide +kernel
theorem dX8_readCommand_117 : decode cX8_readCommand 117 = .ok (.ireturn, 1) := by decide +kernel
theorem dX8_readCommand_118 : decode cX8_readCommand 118 = .ok (.aload_n 0, 1) := by decide +kernel
theorem dX8_readCommand_119 : decode cX8_readCommand 119 = .ok (.iconst 0, 1) := by decide +kernel
theorem dX8_readCommand_120 : decode cX8_readCommand 120 = .ok (.iconst 2, 1) := by decide +kernel
theorem dX8_readCommand_121 : decode cX8_readCommand 121 = .ok (.iconst 0, 1) := by decide +kernel
theorem dX8_readCommand_122 : decode cX8_readCommand 122 = .ok (.bipush 15, 2) := by decide +kernel
theorem dX8_readCommand_124 : decode cX8_readCommand 124 = .ok (.invokevirtual 129, 3) := by decide +kernel
theorem dX8_readCommand_127 : decode cX8_readCommand 127 = .ok (.istore_n 3, 1) := by decide +kernel
theorem dX8_readCommand_128 : decode cX8_readCommand 128 = .ok (.iload_n 3, 1) := by decide +kernel
theorem dX8_readCommand_129 : decode cX8_readCommand 129 = .ok (.iconst (-1), 1) := by decide +kernel
theorem dX8_readCommand_130 : decode cX8_readCommand 130 = .ok (.if_icmp .eq 35, 3) := by decide +kernel
theorem dX8_readCommand_133 : decode cX8_readCommand 133 = .ok (.aload_n 0, 1) := by decide +kernel
theorem dX8_readCommand_134 : decode cX8_readCommand 134 = .ok (.aload_n 1, 1) := by decide +kernel
theorem dX8_readCommand_135 : decode cX8_readCommand 135 = .ok (.iload_n 3, 1) := by decide +kernel
theorem dX8_readCommand_136 : decode cX8_readCommand 136 = .ok (.invokestatic 144, 3) := by decide +kernel
theorem dX8_readCommand_139 : decode cX8_readCommand 139 = .ok (.ifCond .eq 15, 3) := by decide +kernel
theorem dX8_readCommand_142 : decode cX8_readCommand 142 = .ok (.aload_n 1, 1) := by decide +kernel
theorem dX8_readCommand_143 : decode cX8_readCommand 143 = .ok (.iload_n 3, 1) := by decide +kernel
theorem dX8_readCommand_144 : decode cX8_readCommand 144 = .ok (.invokestatic 147, 3) := by decide +kernel
theorem dX8_readCommand_147 : decode cX8_readCommand 147 = .ok (.ifCond .lt 7, 3) := by decide +kernel
theorem dX8_readCommand_150 : decode cX8_readCommand 150 = .ok (.iconst 1, 1) := by decide +kernel
theorem dX8_readCommand_151 : decode cX8_readCommand 151 = .ok (.goto 4, 3) := by decide +kernel
theorem dX8_readCommand_154 : decode cX8_readCommand 154 = .ok (.iconst 0, 1) := by decide +kernel
theorem dX8_readCommand_155 : decode cX8_readCommand 155 = .ok (.invokevirtual 136, 3) := by decide +kernel
theorem dX8_readCommand_158 : decode cX8_readCommand 158 = .ok (.ifCond .eq 7, 3) := by decide +kernel
theorem dX8_readCommand_161 : decode cX8_readCommand 161 = .ok (.iconst 1, 1) := by decide +kernel
theorem dX8_readCommand_162 : decode cX8_readCommand 162 = .ok (.goto 4, 3) := by decide +kernel
theorem dX8_readCommand_165 : decode cX8_readCommand 165 = .ok (.iconst 0, 1) := by decide +kernel
theorem dX8_readCommand_166 : decode cX8_readCommand 166 = .ok (.ireturn, 1) := by decide +kernel
theorem dX8_readCommand_167 : decode cX8_readCommand 167 = .ok (.aload_n 0, 1) := by decide +kernel
theorem dX8_readCommand_168 : decode cX8_readCommand 168 = .ok (.iconst 0, 1) := by decide +kernel
theorem dX8_readCommand_169 : decode cX8_readCommand 169 = .ok (.iconst 2, 1) := by decide +kernel
theorem dX8_readCommand_170 : decode cX8_readCommand 170 = .ok (.iconst 1, 1) := by decide +kernel
theorem dX8_readCommand_171 : decode cX8_readCommand 171 = .ok (.bipush 15, 2) := by decide +kernel
theorem dX8_readCommand_173 : decode cX8_readCommand 173 = .ok (.invokevirtual 129, 3) := by decide +kernel
theorem dX8_readCommand_176 : decode cX8_readCommand 176 = .ok (.istore_n 3, 1) := by decide +kernel
theorem dX8_readCommand_177 : decode cX8_readCommand 177 = .ok (.iload_n 3, 1) := by decide +kernel
theorem dX8_readCommand_178 : decode cX8_readCommand 178 = .ok (.iconst (-1), 1) := by decide +kernel
theorem dX8_readCommand_179 : decode cX8_readCommand 179 = .ok (.if_icmp .eq 46, 3) := by decide +kernel
theorem dX8_readCommand_182 : decode cX8_readCommand 182 = .ok (.aload_n 0, 1) := by decide +kernel
theorem dX8_readCommand_183 : decode cX8_readCommand 183 = .ok (.aload_n 1, 1) := by decide +kernel
theorem dX8_readCommand_184 : decode cX8_readCommand 184 = .ok (.iload_n 3, 1) := by decide +kernel
theorem dX8_readCommand_185 : decode cX8_readCommand 185 = .ok (.invokestatic 150, 3) := by decide +kernel
theorem dX8_readCommand_188 : decode cX8_readCommand 188 = .ok (.ifCond .eq 26, 3) := by decide +kernel
theorem dX8_readCommand_191 : decode cX8_readCommand 191 = .ok (.aload_n 1, 1) := by decide +kernel
theorem dX8_readCommand_192 : decode cX8_readCommand 192 = .ok (.iload_n 3, 1) := by decide +kernel
theorem dX8_readCommand_193 : decode cX8_readCommand 193 = .ok (.iload_n 2, 1) := by decide +kernel
theorem dX8_readCommand_194 : decode cX8_readCommand 194 = .ok (.bipush 99, 2) := by decide +kernel
theorem dX8_readCommand_196 : decode cX8_readCommand 196 = .ok (.if_icmp .ne 7, 3) := by decide +kernel
theorem dX8_readCommand_199 : decode cX8_readCommand 199 = .ok (.iconst 1, 1) := by decide +kernel
theorem dX8_readCommand_200 : decode cX8_readCommand 200 = .ok (.goto 4, 3) := by decide +kernel
theorem dX8_readCommand_203 : decode cX8_readCommand 203 = .ok (.iconst 0, 1) := by decide +kernel
theorem dX8_readCommand_204 : decode cX8_readCommand 204 = .ok (.invokestatic 153, 3) := by decide +kernel
theorem dX8_readCommand_207 : decode cX8_readCommand 207 = .ok (.ifCond .le 7, 3) := by decide +kernel
theorem dX8_readCommand_210 : decode cX8_readCommand 210 = .ok (.iconst 1, 1) := by decide +kernel
theorem dX8_readCommand_211 : decode cX8_readCommand 211 = .ok (.goto 4, 3) := by decide +kernel
theorem dX8_readCommand_214 : decode cX8_readCommand 214 = .ok (.iconst 0, 1) := by decide +kernel
theorem dX8_readCommand_215 : decode cX8_readCommand 215 = .ok (.invokevirtual 136, 3) := by decide +kernel
theorem dX8_readCommand_218 : decode cX8_readCommand 218 = .ok (.ifCond .eq 7, 3) := by decide +kernel
theorem dX8_readCommand_221 : decode cX8_readCommand 221 = .ok (.iconst 1, 1) := by decide +kernel
theorem dX8_readCommand_222 : decode cX8_readCommand 222 = .ok (.goto 4, 3) := by decide +kernel
theorem dX8_readCommand_225 : decode cX8_readCommand 225 = .ok (.iconst 0, 1) := by decide +kernel
theorem dX8_readCommand_226 : decode cX8_readCommand 226 = .ok (.ireturn, 1) := by decide +kernel
theorem dX8_readCommand_227 : decode cX8_readCommand 227 = .ok (.aload_n 0, 1) := by decide +kernel
theorem dX8_readCommand_228 : decode cX8_readCommand 228 = .ok (.iconst 0, 1) := by decide +kernel
theorem dX8_readCommand_229 : decode cX8_readCommand 229 = .ok (.iconst 2, 1) := by decide +kernel
theorem dX8_readCommand_230 : decode cX8_readCommand 230 = .ok (.iconst 0, 1) := by decide +kernel
theorem dX8_readCommand_231 : decode cX8_readCommand 231 = .ok (.bipush 15, 2) := by decide +kernel
theorem dX8_readCommand_233 : decode cX8_readCommand 233 = .ok (.invokevirtual 129, 3) := by decide +kernel
theorem dX8_readCommand_236 : decode cX8_readCommand 236 = .ok (.istore_n 3, 1) := by decide +kernel
theorem dX8_readCommand_237 : decode cX8_readCommand 237 = .ok (.aload_n 0, 1) := by decide +kernel
theorem dX8_readCommand_238 : decode cX8_readCommand 238 = .ok (.iload_n 3, 1) := by decide +kernel
theorem dX8_readCommand_239 : decode cX8_readCommand 239 = .ok (.iconst 1, 1) := by decide +kernel
theorem dX8_readCommand_240 : decode cX8_readCommand 240 = .ok (.iconst 0, 1) := by decide +kernel
theorem dX8_readCommand_241 : decode cX8_readCommand 241 = .ok (.iconst 2, 1) := by decide +kernel
theorem dX8_readCommand_242 : decode cX8_readCommand 242 = .ok (.invokevirtual 129, 3) := by decide +kernel
theorem dX8_readCommand_245 : decode cX8_readCommand 245 = .ok (.istore 4, 2) := by decide +kernel
theorem dX8_readCommand_247 : decode cX8_readCommand 247 = .ok (.iload 4, 2) := by decide +kernel
theorem dX8_readCommand_249 : decode cX8_readCommand 249 = .ok (.iconst (-1), 1) := by decide +kernel
theorem dX8_readCommand_250 : decode cX8_readCommand 250 = .ok (.if_icmp .eq 47, 3) := by decide +kernel
theorem dX8_readCommand_253 : decode cX8_readCommand 253 = .ok (.aload_n 0, 1) := by decide +kernel
theorem dX8_readCommand_254 : decode cX8_readCommand 254 = .ok (.aload_n 1, 1) := by decide +kernel
theorem dX8_readCommand_255 : decode cX8_readCommand 255 = .ok (.iload_n 3, 1) := by decide +kernel
theorem dX8_readCommand_256 : decode cX8_readCommand 256 = .ok (.invokestatic 157, 3) := by decide +kernel
theorem dX8_readCommand_259 : decode cX8_readCommand 259 = .ok (.ifCond .eq 27, 3) := by decide +kernel
theorem dX8_readCommand_262 : decode cX8_readCommand 262 = .ok (.aload_n 1, 1) := by decide +kernel
theorem dX8_readCommand_263 : decode cX8_readCommand 263 = .ok (.iload_n 3, 1) := by decide +kernel
theorem dX8_readCommand_264 : decode cX8_readCommand 264 = .ok (.iload 4, 2) := by decide +kernel
theorem dX8_readCommand_266 : decode cX8_readCommand 266 = .ok (.iconst 2, 1) := by decide +kernel
theorem dX8_readCommand_267 : decode cX8_readCommand 267 = .ok (.if_icmp .ne 7, 3) := by decide +kernel
theorem dX8_readCommand_270 : decode cX8_readCommand 270 = .ok (.iconst (-1), 1) := by decide +kernel
theorem dX8_readCommand_271 : decode cX8_readCommand 271 = .ok (.goto 5, 3) := by decide +kernel
theorem dX8_readCommand_274 : decode cX8_readCommand 274 = .ok (.iload 4, 2) := by decide +kernel
theorem dX8_readCommand_276 : decode cX8_readCommand 276 = .ok (.invokestatic 107, 3) := by decide +kernel
theorem dX8_readCommand_279 : decode cX8_readCommand 279 = .ok (.ifCond .lt 7, 3) := by decide +kernel
theorem dX8_readCommand_282 : decode cX8_readCommand 282 = .ok (.iconst 1, 1) := by decide +kernel
theorem dX8_readCommand_283 : decode cX8_readCommand 283 = .ok (.goto 4, 3) := by decide +kernel
theorem dX8_readCommand_286 : decode cX8_readCommand 286 = .ok (.iconst 0, 1) := by decide +kernel
theorem dX8_readCommand_287 : decode cX8_readCommand 287 = .ok (.invokevirtual 136, 3) := by decide +kernel
theorem dX8_readCommand_290 : decode cX8_readCommand 290 = .ok (.ifCond .eq 7, 3) := by decide +kernel
theorem dX8_readCommand_293 : decode cX8_readCommand 293 = .ok (.iconst 1, 1) := by decide +kernel
theorem dX8_readCommand_294 : decode cX8_readCommand 294 = .ok (.goto 4, 3) := by decide +kernel
theorem dX8_readCommand_297 : decode cX8_readCommand 297 = .ok (.iconst 0, 1) := by decide +kernel
theorem dX8_readCommand_298 : decode cX8_readCommand 298 = .ok (.ireturn, 1) := by decide +kernel
theorem dX8_readCommand_299 : decode cX8_readCommand 299 = .ok (.aload_n 0, 1) := by decide +kernel
theorem dX8_readCommand_300 : decode cX8_readCommand 300 = .ok (.iconst 0, 1) := by decide +kernel
theorem dX8_readCommand_301 : decode cX8_readCommand 301 = .ok (.iconst 2, 1) := by decide +kernel
theorem dX8_readCommand_302 : decode cX8_readCommand 302 = .ok (.iconst 0, 1) := by decide +kernel
theorem dX8_readCommand_303 : decode cX8_readCommand 303 = .ok (.bipush 15, 2) := by decide +kernel
theorem dX8_readCommand_305 : decode cX8_readCommand 305 = .ok (.invokevirtual 129, 3) := by decide +kernel
theorem dX8_readCommand_308 : decode cX8_readCommand 308 = .ok (.istore_n 3, 1) := by decide +kernel
theorem dX8_readCommand_309 : decode cX8_readCommand 309 = .ok (.iload_n 3, 1) := by decide +kernel
theorem dX8_readCommand_310 : decode cX8_readCommand 310 = .ok (.iconst (-1), 1) := by decide +kernel
theorem dX8_readCommand_311 : decode cX8_readCommand 311 = .ok (.if_icmp .eq 43, 3) := by decide +kernel
theorem dX8_readCommand_314 : decode cX8_readCommand 314 = .ok (.aload_n 0, 1) := by decide +kernel
theorem dX8_readCommand_315 : decode cX8_readCommand 315 = .ok (.aload_n 1, 1) := by decide +kernel
theorem dX8_readCommand_316 : decode cX8_readCommand 316 = .ok (.iload_n 3, 1) := by decide +kernel
theorem dX8_readCommand_317 : decode cX8_readCommand 317 = .ok (.invokestatic 157, 3) := by decide +kernel
theorem dX8_readCommand_320 : decode cX8_readCommand 320 = .ok (.ifCond .eq 23, 3) := by decide +kernel
theorem dX8_readCommand_323 : decode cX8_readCommand 323 = .ok (.aload_n 1, 1) := by decide +kernel
theorem dX8_readCommand_324 : decode cX8_readCommand 324 = .ok (.iload_n 3, 1) := by decide +kernel
theorem dX8_readCommand_325 : decode cX8_readCommand 325 = .ok (.invokestatic 104, 3) := by decide +kernel
theorem dX8_readCommand_328 : decode cX8_readCommand 328 = .ok (.ifCond .ne 15, 3) := by decide +kernel
theorem dX8_readCommand_331 : decode cX8_readCommand 331 = .ok (.aload_n 1, 1) := by decide +kernel
theorem dX8_readCommand_332 : decode cX8_readCommand 332 = .ok (.iload_n 3, 1) := by decide +kernel
theorem dX8_readCommand_333 : decode cX8_readCommand 333 = .ok (.invokestatic 160, 3) := by decide +kernel
theorem dX8_readCommand_336 : decode cX8_readCommand 336 = .ok (.ifCond .ne 7, 3) := by decide +kernel
theorem dX8_readCommand_339 : decode cX8_readCommand 339 = .ok (.iconst 1, 1) := by decide +kernel
theorem dX8_readCommand_340 : decode cX8_readCommand 340 = .ok (.goto 4, 3) := by decide +kernel
theorem dX8_readCommand_343 : decode cX8_readCommand 343 = .ok (.iconst 0, 1) := by decide +kernel
theorem dX8_readCommand_344 : decode cX8_readCommand 344 = .ok (.invokevirtual 136, 3) := by decide +kernel
theorem dX8_readCommand_347 : decode cX8_readCommand 347 = .ok (.ifCond .eq 7, 3) := by decide +kernel
theorem dX8_readCommand_350 : decode cX8_readCommand 350 = .ok (.iconst 1, 1) := by decide +kernel
theorem dX8_readCommand_351 : decode cX8_readCommand 351 = .ok (.goto 4, 3) := by decide +kernel
theorem dX8_readCommand_354 : decode cX8_readCommand 354 = .ok (.iconst 0, 1) := by decide +kernel
theorem dX8_readCommand_355 : decode cX8_readCommand 355 = .ok (.ireturn, 1) := by decide +kernel
theorem dX8_readCommand_356 : decode cX8_readCommand 356 = .ok (.aload_n 0, 1) := by decide +kernel
theorem dX8_readCommand_357 : decode cX8_readCommand 357 = .ok (.iconst 0, 1) := by decide +kernel
theorem dX8_readCommand_358 : decode cX8_readCommand 358 = .ok (.iconst 1, 1) := by decide +kernel
theorem dX8_readCommand_359 : decode cX8_readCommand 359 = .ok (.iconst 0, 1) := by decide +kernel
theorem dX8_readCommand_360 : decode cX8_readCommand 360 = .ok (.iconst 1, 1) := by decide +kernel
theorem dX8_readCommand_361 : decode cX8_readCommand 361 = .ok (.invokevirtual 129, 3) := by decide +kernel
theorem dX8_readCommand_364 : decode cX8_readCommand 364 = .ok (.istore_n 3, 1) := by decide +kernel
theorem dX8_readCommand_365 : decode cX8_readCommand 365 = .ok (.iload_n 3, 1) := by decide +kernel
theorem dX8_readCommand_366 : decode cX8_readCommand 366 = .ok (.iconst (-1), 1) := by decide +kernel
theorem dX8_readCommand_367 : decode cX8_readCommand 367 = .ok (.if_icmp .eq 27, 3) := by decide +kernel
theorem dX8_readCommand_370 : decode cX8_readCommand 370 = .ok (.aload_n 0, 1) := by decide +kernel
theorem dX8_readCommand_371 : decode cX8_readCommand 371 = .ok (.aload_n 1, 1) := by decide +kernel
theorem dX8_readCommand_372 : decode cX8_readCommand 372 = .ok (.iload_n 3, 1) := by decide +kernel
theorem dX8_readCommand_373 : decode cX8_readCommand 373 = .ok (.invokestatic 163, 3) := by decide +kernel
theorem dX8_readCommand_376 : decode cX8_readCommand 376 = .ok (.ifCond .lt 7, 3) := by decide +kernel
theorem dX8_readCommand_379 : decode cX8_readCommand 379 = .ok (.iconst 1, 1) := by decide +kernel
theorem dX8_readCommand_380 : decode cX8_readCommand 380 = .ok (.goto 4, 3) := by decide +kernel
theorem dX8_readCommand_383 : decode cX8_readCommand 383 = .ok (.iconst 0, 1) := by decide +kernel
theorem dX8_readCommand_384 : decode cX8_readCommand 384 = .ok (.invokevirtual 136, 3) := by decide +kernel
theorem dX8_readCommand_387 : decode cX8_readCommand 387 = .ok (.ifCond .eq 7, 3) := by decide +kernel
theorem dX8_readCommand_390 : decode cX8_readCommand 390 = .ok (.iconst 1, 1) := by decide +kernel
theorem dX8_readCommand_391 : decode cX8_readCommand 391 = .ok (.goto 4, 3) := by decide +kernel
theorem dX8_readCommand_394 : decode cX8_readCommand 394 = .ok (.iconst 0, 1) := by decide +kernel
theorem dX8_readCommand_395 : decode cX8_readCommand 395 = .ok (.ireturn, 1) := by decide +kernel
theorem dX8_readCommand_396 : decode cX8_readCommand 396 = .ok (.aload_n 0, 1) := by decide +kernel
theorem dX8_readCommand_397 : decode cX8_readCommand 397 = .ok (.iconst 0, 1) := by decide +kernel
theorem dX8_readCommand_398 : decode cX8_readCommand 398 = .ok (.iconst 1, 1) := by decide +kernel
theorem dX8_readCommand_399 : decode cX8_readCommand 399 = .ok (.iconst 0, 1) := by decide +kernel
theorem dX8_readCommand_400 : decode cX8_readCommand 400 = .ok (.iconst 1, 1) := by decide +kernel
theorem dX8_readCommand_401 : decode cX8_readCommand 401 = .ok (.invokevirtual 129, 3) := by decide +kernel
theorem dX8_readCommand_404 : decode cX8_readCommand 404 = .ok (.istore_n 3, 1) := by decide +kernel
theorem dX8_readCommand_405 : decode cX8_readCommand 405 = .ok (.aload_n 1, 1) := by decide +kernel
theorem dX8_readCommand_406 : decode cX8_readCommand 406 = .ok (.iconst 4, 1) := by decide +kernel
theorem dX8_readCommand_407 : decode cX8_readCommand 407 = .ok (.iload_n 3, 1) := by decide +kernel
theorem dX8_readCommand_408 : decode cX8_readCommand 408 = .ok (.iconst (-1), 1) := by decide +kernel
theorem dX8_readCommand_409 : decode cX8_readCommand 409 = .ok (.if_icmp .ne 9, 3) := by decide +kernel
theorem dX8_readCommand_412 : decode cX8_readCommand 412 = .ok (.aload_n 1, 1) := by decide +kernel
theorem dX8_readCommand_413 : decode cX8_readCommand 413 = .ok (.iconst 4, 1) := by decide +kernel
theorem dX8_readCommand_414 : decode cX8_readCommand 414 = .ok (.iaload, 1) := by decide +kernel
theorem dX8_readCommand_415 : decode cX8_readCommand 415 = .ok (.goto 4, 3) := by decide +kernel
theorem dX8_readCommand_418 : decode cX8_readCommand 418 = .ok (.iload_n 3, 1) := by decide +kernel
theorem dX8_readCommand_419 : decode cX8_readCommand 419 = .ok (.iastore, 1) := by decide +kernel
theorem dX8_readCommand_420 : decode cX8_readCommand 420 = .ok (.iload_n 3, 1) := by decide +kernel
theorem dX8_readCommand_421 : decode cX8_readCommand 421 = .ok (.iconst (-1), 1) := by decide +kernel
theorem dX8_readCommand_422 : decode cX8_readCommand 422 = .ok (.if_icmp .eq 7, 3) := by decide +kernel
theorem dX8_readCommand_425 : decode cX8_readCommand 425 = .ok (.iconst 1, 1) := by decide +kernel
theorem dX8_readCommand_426 : decode cX8_readCommand 426 = .ok (.goto 4, 3) := by decide +kernel
theorem dX8_readCommand_429 : decode cX8_readCommand 429 = .ok (.iconst 0, 1) := by decide +kernel
theorem dX8_readCommand_430 : decode cX8_readCommand 430 = .ok (.ireturn, 1) := by decide +kernel
theorem dX8_readCommand_431 : decode cX8_readCommand 431 = .ok (.aload_n 0, 1) := by decide +kernel
theorem dX8_readCommand_432 : decode cX8_readCommand 432 = .ok (.aload_n 1, 1) := by decide +kernel
theorem dX8_readCommand_433 : decode cX8_readCommand 433 = .ok (.invokestatic 166, 3) := by decide +kernel
theorem dX8_readCommand_436 : decode cX8_readCommand 436 = .ok (.ifCond .lt 7, 3) := by decide +kernel
theorem dX8_readCommand_439 : decode cX8_readCommand 439 = .ok (.iconst 1, 1) := by decide +kernel
theorem dX8_readCommand_440 : decode cX8_readCommand 440 = .ok (.goto 4, 3) := by decide +kernel
theorem dX8_readCommand_443 : decode cX8_readCommand 443 = .ok (.iconst 0, 1) := by decide +kernel
theorem dX8_readCommand_444 : decode cX8_readCommand 444 = .ok (.invokevirtual 136, 3) := by decide +kernel
theorem dX8_readCommand_447 : decode cX8_readCommand 447 = .ok (.ireturn, 1) := by decide +kernel
theorem dX8_readCommand_448 : decode cX8_readCommand 448 = .ok (.aload_n 0, 1) := by decide +kernel
theorem dX8_readCommand_449 : decode cX8_readCommand 449 = .ok (.dup, 1) := by decide +kernel
theorem dX8_readCommand_450 : decode cX8_readCommand 450 = .ok (.getfield 119, 3) := by decide +kernel
theorem dX8_readCommand_453 : decode cX8_readCommand 453 = .ok (.iconst 1, 1) := by decide +kernel
theorem dX8_readCommand_454 : decode cX8_readCommand 454 = .ok (.isub, 1) := by decide +kernel
theorem dX8_readCommand_455 : decode cX8_readCommand 455 = .ok (.putfield 119, 3) := by decide +kernel
theorem dX8_readCommand_458 : decode cX8_readCommand 458 = .ok (.iconst 0, 1) := by decide +kernel
theorem dX8_readCommand_459 : decode cX8_readCommand 459 = .ok (.ireturn, 1) := by decide +kernel
theorem dX8_readText_0 : decode cX8_readText 0 = .ok (.aload_n 1, 1) := by decide +kernel
theorem dX8_readText_1 : decode cX8_readText 1 = .ok (.invokestatic 35, 3) := by decide +kernel
theorem dX8_readText_4 : decode cX8_readText 4 = .ok (.aload_n 0, 1) := by decide +kernel
theorem dX8_readText_5 : decode cX8_readText 5 = .ok (.iconst 0, 1) := by decide +kernel
theorem dX8_readText_6 : decode cX8_readText 6 = .ok (.putfield 124, 3) := by decide +kernel
theorem dX8_readText_9 : decode cX8_readText 9 = .ok (.aload_n 0, 1) := by decide +kernel
theorem dX8_readText_10 : decode cX8_readText 10 = .ok (.iconst 0, 1) := by decide +kernel
theorem dX8_readText_11 : decode cX8_readText 11 = .ok (.putfield 119, 3) := by decide +kernel
theorem dX8_readText_14 : decode cX8_readText 14 = .ok (.aload_n 0, 1) := by decide +kernel
theorem dX8_readText_15 : decode cX8_readText 15 = .ok (.getfield 112, 3) := by decide +kernel
theorem dX8_readText_18 : decode cX8_readText 18 = .ok (.ifCond .eq 14, 3) := by decide +kernel
theorem dX8_readText_21 : decode cX8_readText 21 = .ok (.aload_n 0, 1) := by decide +kernel
theorem dX8_readText_22 : decode cX8_readText 22 = .ok (.getfield 7, 3) := by decide +kernel
theorem dX8_readText_25 : decode cX8_readText 25 = .ok (.iconst 0, 1) := by decide +kernel
theorem dX8_readText_26 : decode cX8_readText 26 = .ok (.iaload, 1) := by decide +kernel
theorem dX8_readText_27 : decode cX8_readText 27 = .ok (.bipush 78, 2) := by decide +kernel
theorem dX8_readText_29 : decode cX8_readText 29 = .ok (.if_icmp .eq 5, 3) := by decide +kernel
theorem dX8_readText_32 : decode cX8_readText 32 = .ok (.iconst 0, 1) := by decide +kernel
theorem dX8_readText_33 : decode cX8_readText 33 = .ok (.ireturn, 1) := by decide +kernel
theorem dX8_readText_34 : decode cX8_readText 34 = .ok (.aload_n 0, 1) := by decide +kernel
theorem dX8_readText_35 : decode cX8_readText 35 = .ok (.iconst 1, 1) := by decide +kernel
theorem dX8_readText_36 : decode cX8_readText 36 = .ok (.putfield 119, 3) := by decide +kernel
theorem dX8_readText_39 : decode cX8_readText 39 = .ok (.aload_n 0, 1) := by decide +kernel
theorem dX8_readText_40 : decode cX8_readText 40 = .ok (.getfield 119, 3) := by decide +kernel
theorem dX8_readText_43 : decode cX8_readText 43 = .ok (.aload_n 0, 1) := by decide +kernel
theorem dX8_readText_44 : decode cX8_readText 44 = .ok (.getfield 112, 3) := by decide +kernel
theorem dX8_readText_47 : decode cX8_readText 47 = .ok (.if_icmp .ge 16, 3) := by decide +kernel
theorem dX8_readText_50 : decode cX8_readText 50 = .ok (.aload_n 0, 1) := by decide +kernel
theorem dX8_readText_51 : decode cX8_readText 51 = .ok (.aload_n 1, 1) := by decide +kernel
theorem dX8_readText_52 : decode cX8_readText 52 = .ok (.invokevirtual 169, 3) := by decide +kernel
theorem dX8_readText_55 : decode cX8_readText 55 = .ok (.ifCond .ne (-16), 3) := by decide +kernel
theorem dX8_readText_58 : decode cX8_readText 58 = .ok (.aload_n 0, 1) := by decide +kernel
theorem dX8_readText_59 : decode cX8_readText 59 = .ok (.getfield 119, 3) := by decide +kernel
theorem dX8_readText_62 : decode cX8_readText 62 = .ok (.ireturn, 1) := by decide +kernel
theorem dX8_readText_63 : decode cX8_readText 63 = .ok (.iconst (-1), 1) := by decide +kernel
theorem dX8_readText_64 : decode cX8_readText 64 = .ok (.ireturn, 1) := by decide +kernel
theorem dX8_errorPosition_0 : decode cX8_errorPosition 0 = .ok (.aload_n 0, 1) := by decide +kernel
theorem dX8_errorPosition_1 : decode cX8_errorPosition 1 = .ok (.iconst 0, 1) := by decide +kernel
theorem dX8_errorPosition_2 : decode cX8_errorPosition 2 = .ok (.putfield 39, 3) := by decide +kernel
theorem dX8_errorPosition_5 : decode cX8_errorPosition 5 = .ok (.aload_n 0, 1) := by decide +kernel
theorem dX8_errorPosition_6 : decode cX8_errorPosition 6 = .ok (.aload_n 0, 1) := by decide +kernel
theorem dX8_errorPosition_7 : decode cX8_errorPosition 7 = .ok (.getfield 16, 3) := by decide +kernel
theorem dX8_errorPosition_10 : decode cX8_errorPosition 10 = .ok (.invokevirtual 172, 3) := by decide +kernel
theorem dX8_errorPosition_13 : decode cX8_errorPosition 13 = .ok (.ireturn, 1) := by decide +kernel
theorem dX8_load_0 : decode cX8_load 0 = .ok (.aload_n 0, 1) := by decide +kernel
theorem dX8_load_1 : decode cX8_load 1 = .ok (.aload_n 0, 1) := by decide +kernel
theorem dX8_load_2 : decode cX8_load 2 = .ok (.aload_n 0, 1) := by decide +kernel
theorem dX8_load_3 : decode cX8_load 3 = .ok (.getfield 16, 3) := by decide +kernel
theorem dX8_load_6 : decode cX8_load 6 = .ok (.invokevirtual 172, 3) := by decide +kernel
theorem dX8_load_9 : decode cX8_load 9 = .ok (.iconst (-1), 1) := by decide +kernel
theorem dX8_load_10 : decode cX8_load 10 = .ok (.if_icmp .ne 7, 3) := by decide +kernel
theorem dX8_load_13 : decode cX8_load 13 = .ok (.iconst 0, 1) := by decide +kernel
theorem dX8_load_14 : decode cX8_load 14 = .ok (.goto 4, 3) := by decide +kernel
theorem dX8_load_17 : decode cX8_load 17 = .ok (.iconst 1, 1) := by decide +kernel
theorem dX8_load_18 : decode cX8_load 18 = .ok (.invokevirtual 115, 3) := by decide +kernel
theorem dX8_load_21 : decode cX8_load 21 = .ok (.ifCond .eq 5, 3) := by decide +kernel
theorem dX8_load_24 : decode cX8_load 24 = .ok (.iconst 0, 1) := by decide +kernel
theorem dX8_load_25 : decode cX8_load 25 = .ok (.ireturn, 1) := by decide +kernel
theorem dX8_load_26 : decode cX8_load 26 = .ok (.aload_n 0, 1) := by decide +kernel
theorem dX8_load_27 : decode cX8_load 27 = .ok (.getfield 16, 3) := by decide +kernel
theorem dX8_load_30 : decode cX8_load 30 = .ok (.iconst 0, 1) := by decide +kernel
theorem dX8_load_31 : decode cX8_load 31 = .ok (.aload_n 0, 1) := by decide +kernel
theorem dX8_load_32 : decode cX8_load 32 = .ok (.getfield 13, 3) := by decide +kernel
theorem dX8_load_35 : decode cX8_load 35 = .ok (.iconst 0, 1) := by decide +kernel
theorem dX8_load_36 : decode cX8_load 36 = .ok (.invokestatic 175, 3) := by decide +kernel
theorem dX8_load_39 : decode cX8_load 39 = .ok (.aload_n 0, 1) := by decide +kernel
theorem dX8_load_40 : decode cX8_load 40 = .ok (.iconst 0, 1) := by decide +kernel
theorem dX8_load_41 : decode cX8_load 41 = .ok (.putfield 179, 3) := by decide +kernel
theorem dX8_load_44 : decode cX8_load 44 = .ok (.aload_n 0, 1) := by decide +kernel
theorem dX8_load_45 : decode cX8_load 45 = .ok (.getfield 25, 3) := by decide +kernel
theorem dX8_load_48 : decode cX8_load 48 = .ok (.iconst 0, 1) := by decide +kernel
theorem dX8_load_49 : decode cX8_load 49 = .ok (.iconst 0, 1) := by decide +kernel
theorem dX8_load_50 : decode cX8_load 50 = .ok (.bastore, 1) := by decide +kernel
theorem dX8_load_51 : decode cX8_load 51 = .ok (.aload_n 0, 1) := by decide +kernel
theorem dX8_load_52 : decode cX8_load 52 = .ok (.getfield 25, 3) := by decide +kernel
theorem dX8_load_55 : decode cX8_load 55 = .ok (.iconst 1, 1) := by decide +kernel
theorem dX8_load_56 : decode cX8_load 56 = .ok (.iconst 0, 1) := by decide +kernel
theorem dX8_load_57 : decode cX8_load 57 = .ok (.bastore, 1) := by decide +kernel
theorem dX8_load_58 : decode cX8_load 58 = .ok (.aload_n 0, 1) := by decide +kernel
theorem dX8_load_59 : decode cX8_load 59 = .ok (.getfield 124, 3) := by decide +kernel
theorem dX8_load_62 : decode cX8_load 62 = .ok (.ireturn, 1) := by decide +kernel
theorem dX8_about_0 : decode cX8_about 0 = .ok (.aload_n 0, 1) := by decide +kernel
theorem dX8_about_1 : decode cX8_about 1 = .ok (.iload_n 1, 1) := by decide +kernel
theorem dX8_about_2 : decode cX8_about 2 = .ok (.i2l, 1) := by decide +kernel
theorem dX8_about_3 : decode cX8_about 3 = .ok (.lconst 0, 1) := by decide +kernel
theorem dX8_about_4 : decode cX8_about 4 = .ok (.ldc2_w 122, 3) := by decide +kernel
theorem dX8_about_7 : decode cX8_about 7 = .ok (.invokestatic 46, 3) := by decide +kernel
theorem dX8_about_10 : decode cX8_about 10 = .ok (.ifCond .eq 7, 3) := by decide +kernel
theorem dX8_about_13 : decode cX8_about 13 = .ok (.iconst 0, 1) := by decide +kernel
theorem dX8_about_14 : decode cX8_about 14 = .ok (.goto 4, 3) := by decide +kernel
theorem dX8_about_17 : decode cX8_about 17 = .ok (.iconst 1, 1) := by decide +kernel
theorem dX8_about_18 : decode cX8_about 18 = .ok (.invokevirtual 115, 3) := by decide +kernel
theorem dX8_about_21 : decode cX8_about 21 = .ok (.ifCond .eq 5, 3) := by decide +kernel
theorem dX8_about_24 : decode cX8_about 24 = .ok (.iconst 0, 1) := by decide +kernel
theorem dX8_about_25 : decode cX8_about 25 = .ok (.ireturn, 1) := by decide +kernel
theorem dX8_about_26 : decode cX8_about 26 = .ok (.iload_n 1, 1) := by decide +kernel
theorem dX8_about_27 : decode cX8_about 27 = .ok (.tableswitch 126 2 9 #[45, 55, 63, 71, 97, 104, 112, 119], 45) := by decide +kernel
theorem dX8_about_72 : decode cX8_about 72 = .ok (.aload_n 0, 1) := by decide +kernel
theorem dX8_about_73 : decode cX8_about 73 = .ok (.getfield 13, 3) := by decide +kernel
theorem dX8_about_76 : decode cX8_about 76 = .ok (.iconst 5, 1) := by decide +kernel
theorem dX8_about_77 : decode cX8_about 77 = .ok (.iaload, 1) := by decide +kernel
theorem dX8_about_78 : decode cX8_about 78 = .ok (.invokestatic 52, 3) := by decide +kernel
theorem dX8_about_81 : decode cX8_about 81 = .ok (.ireturn, 1) := by decide +kernel
theorem dX8_about_82 : decode cX8_about 82 = .ok (.aload_n 0, 1) := by decide +kernel
theorem dX8_about_83 : decode cX8_about 83 = .ok (.getfield 13, 3) := by decide +kernel
theorem dX8_about_86 : decode cX8_about 86 = .ok (.invokestatic 56, 3) := by decide +kernel
theorem dX8_about_89 : decode cX8_about 89 = .ok (.ireturn, 1) := by decide +kernel
theorem dX8_about_90 : decode cX8_about 90 = .ok (.aload_n 0, 1) := by decide +kernel
theorem dX8_about_91 : decode cX8_about 91 = .ok (.getfield 13, 3) := by decide +kernel
theorem dX8_about_94 : decode cX8_about 94 = .ok (.invokestatic 95, 3) := by decide +kernel
theorem dX8_about_97 : decode cX8_about 97 = .ok (.ireturn, 1) := by decide +kernel
theorem dX8_about_98 : decode cX8_about 98 = .ok (.aload_n 0, 1) := by decide +kernel
theorem dX8_about_99 : decode cX8_about 99 = .ok (.getfield 13, 3) := by decide +kernel
theorem dX8_about_102 : decode cX8_about 102 = .ok (.invokestatic 182, 3) := by decide +kernel
theorem dX8_about_105 : decode cX8_about 105 = .ok (.ifCond .ne 17, 3) := by decide +kernel
theorem dX8_about_108 : decode cX8_about 108 = .ok (.aload_n 0, 1) := by decide +kernel
theorem dX8_about_109 : decode cX8_about 109 = .ok (.getfield 13, 3) := by decide +kernel
theorem dX8_about_112 : decode cX8_about 112 = .ok (.invokestatic 95, 3) := by decide +kernel
theorem dX8_about_115 : decode cX8_about 115 = .ok (.ifCond .ne 7, 3) := by decide +kernel
theorem dX8_about_118 : decode cX8_about 118 = .ok (.iconst 1, 1) := by decide +kernel
theorem dX8_about_119 : decode cX8_about 119 = .ok (.goto 4, 3) := by decide +kernel
theorem dX8_about_122 : decode cX8_about 122 = .ok (.iconst 0, 1) := by decide +kernel
theorem dX8_about_123 : decode cX8_about 123 = .ok (.ireturn, 1) := by decide +kernel
theorem dX8_about_124 : decode cX8_about 124 = .ok (.aload_n 0, 1) := by decide +kernel
theorem dX8_about_125 : decode cX8_about 125 = .ok (.getfield 13, 3) := by decide +kernel
theorem dX8_about_128 : decode cX8_about 128 = .ok (.iconst 2, 1) := by decide +kernel
theorem dX8_about_129 : decode cX8_about 129 = .ok (.iaload, 1) := by decide +kernel
theorem dX8_about_130 : decode cX8_about 130 = .ok (.ireturn, 1) := by decide +kernel
theorem dX8_about_131 : decode cX8_about 131 = .ok (.aload_n 0, 1) := by decide +kernel
theorem dX8_about_132 : decode cX8_about 132 = .ok (.getfield 13, 3) := by decide +kernel
theorem dX8_about_135 : decode cX8_about 135 = .ok (.invokestatic 182, 3) := by decide +kernel
theorem dX8_about_138 : decode cX8_about 138 = .ok (.ireturn, 1) := by decide +kernel
theorem dX8_about_139 : decode cX8_about 139 = .ok (.aload_n 0, 1) := by decide +kernel
theorem dX8_about_140 : decode cX8_about 140 = .ok (.getfield 13, 3) := by decide +kernel
theorem dX8_about_143 : decode cX8_about 143 = .ok (.iconst 3, 1) := by decide +kernel
theorem dX8_about_144 : decode cX8_about 144 = .ok (.iaload, 1) := by decide +kernel
theorem dX8_about_145 : decode cX8_about 145 = .ok (.ireturn, 1) := by decide +kernel
theorem dX8_about_146 : decode cX8_about 146 = .ok (.aload_n 0, 1) := by decide +kernel
theorem dX8_about_147 : decode cX8_about 147 = .ok (.getfield 13, 3) := by decide +kernel
theorem dX8_about_150 : decode cX8_about 150 = .ok (.iconst 4, 1) := by decide +kernel
theorem dX8_about_151 : decode cX8_about 151 = .ok (.iaload, 1) := by decide +kernel
theorem dX8_about_152 : decode cX8_about 152 = .ok (.ireturn, 1) := by decide +kernel
theorem dX8_about_153 : decode cX8_about 153 = .ok (.aload_n 0, 1) := by decide +kernel
theorem dX8_about_154 : decode cX8_about 154 = .ok (.getfield 13, 3) := by decide +kernel
theorem dX8_about_157 : decode cX8_about 157 = .ok (.iload_n 1, 1) := by decide +kernel
theorem dX8_about_158 : decode cX8_about 158 = .ok (.iaload, 1) := by decide +kernel
theorem dX8_about_159 : decode cX8_about 159 = .ok (.ireturn, 1) := by decide +kernel
theorem dX8_jewelOf_0 : decode cX8_jewelOf 0 = .ok (.aload_n 0, 1) := by decide +kernel
theorem dX8_jewelOf_1 : decode cX8_jewelOf 1 = .ok (.aload_n 0, 1) := by decide +kernel
theorem dX8_jewelOf_2 : decode cX8_jewelOf 2 = .ok (.getfield 13, 3) := by decide +kernel
theorem dX8_jewelOf_5 : decode cX8_jewelOf 5 = .ok (.iload_n 1, 1) := by decide +kernel
theorem dX8_jewelOf_6 : decode cX8_jewelOf 6 = .ok (.invokestatic 144, 3) := by decide +kernel
theorem dX8_jewelOf_9 : decode cX8_jewelOf 9 = .ok (.ifCond .ne 7, 3) := by decide +kernel
theorem dX8_jewelOf_12 : decode cX8_jewelOf 12 = .ok (.iconst 1, 1) := by decide +kernel
theorem dX8_jewelOf_13 : decode cX8_jewelOf 13 = .ok (.goto 20, 3) := by decide +kernel
theorem dX8_jewelOf_16 : decode cX8_jewelOf 16 = .ok (.iload_n 2, 1) := by decide +kernel
theorem dX8_jewelOf_17 : decode cX8_jewelOf 17 = .ok (.i2l, 1) := by decide +kernel
theorem dX8_jewelOf_18 : decode cX8_jewelOf 18 = .ok (.lconst 0, 1) := by decide +kernel
theorem dX8_jewelOf_19 : decode cX8_jewelOf 19 = .ok (.ldc2_w 185, 3) := by decide +kernel
theorem dX8_jewelOf_22 : decode cX8_jewelOf 22 = .ok (.invokestatic 46, 3) := by decide +kernel
theorem dX8_jewelOf_25 : decode cX8_jewelOf 25 = .ok (.ifCond .eq 7, 3) := by decide +kernel
theorem dX8_jewelOf_28 : decode cX8_jewelOf 28 = .ok (.iconst 0, 1) := by decide +kernel
theorem dX8_jewelOf_29 : decode cX8_jewelOf 29 = .ok (.goto 4, 3) := by decide +kernel
theorem dX8_jewelOf_32 : decode cX8_jewelOf 32 = .ok (.iconst 2, 1) := by decide +kernel
theorem dX8_jewelOf_33 : decode cX8_jewelOf 33 = .ok (.invokevirtual 115, 3) := by decide +kernel
theorem dX8_jewelOf_36 : decode cX8_jewelOf 36 = .ok (.ifCond .eq 5, 3) := by decide +kernel
theorem dX8_jewelOf_39 : decode cX8_jewelOf 39 = .ok (.iconst 0, 1) := by decide +kernel
theorem dX8_jewelOf_40 : decode cX8_jewelOf 40 = .ok (.ireturn, 1) := by decide +kernel
theorem dX8_jewelOf_41 : decode cX8_jewelOf 41 = .ok (.iload_n 2, 1) := by decide +kernel
theorem dX8_jewelOf_42 : decode cX8_jewelOf 42 = .ok (.ifCond .ne 15, 3) := by decide +kernel
theorem dX8_jewelOf_45 : decode cX8_jewelOf 45 = .ok (.aload_n 0, 1) := by decide +kernel
theorem dX8_jewelOf_46 : decode cX8_jewelOf 46 = .ok (.getfield 13, 3) := by decide +kernel
theorem dX8_jewelOf_49 : decode cX8_jewelOf 49 = .ok (.bipush 6, 2) := by decide +kernel
theorem dX8_jewelOf_51 : decode cX8_jewelOf 51 = .ok (.iload_n 1, 1) := by decide +kernel
theorem dX8_jewelOf_52 : decode cX8_jewelOf 52 = .ok (.iadd, 1) := by decide +kernel
theorem dX8_jewelOf_53 : decode cX8_jewelOf 53 = .ok (.iaload, 1) := by decide +kernel
theorem dX8_jewelOf_54 : decode cX8_jewelOf 54 = .ok (.goto 28, 3) := by decide +kernel
theorem dX8_jewelOf_57 : decode cX8_jewelOf 57 = .ok (.iload_n 2, 1) := by decide +kernel
theorem dX8_jewelOf_58 : decode cX8_jewelOf 58 = .ok (.iconst 1, 1) := by decide +kernel
theorem dX8_jewelOf_59 : decode cX8_jewelOf 59 = .ok (.if_icmp .ne 15, 3) := by decide +kernel
theorem dX8_jewelOf_62 : decode cX8_jewelOf 62 = .ok (.aload_n 0, 1) := by decide +kernel
theorem dX8_jewelOf_63 : decode cX8_jewelOf 63 = .ok (.getfield 13, 3) := by decide +kernel
theorem dX8_jewelOf_66 : decode cX8_jewelOf 66 = .ok (.bipush 22, 2) := by decide +kernel
theorem dX8_jewelOf_68 : decode cX8_jewelOf 68 = .ok (.iload_n 1, 1) := by decide +kernel
theorem dX8_jewelOf_69 : decode cX8_jewelOf 69 = .ok (.iadd, 1) := by decide +kernel
theorem dX8_jewelOf_70 : decode cX8_jewelOf 70 = .ok (.iaload, 1) := by decide +kernel
theorem dX8_jewelOf_71 : decode cX8_jewelOf 71 = .ok (.goto 11, 3) := by decide +kernel
theorem dX8_jewelOf_74 : decode cX8_jewelOf 74 = .ok (.aload_n 0, 1) := by decide +kernel
theorem dX8_jewelOf_75 : decode cX8_jewelOf 75 = .ok (.getfield 13, 3) := by decide +kernel
theorem dX8_jewelOf_78 : decode cX8_jewelOf 78 = .ok (.iload_n 1, 1) := by decide +kernel
theorem dX8_jewelOf_79 : decode cX8_jewelOf 79 = .ok (.invokestatic 187, 3) := by decide +kernel
theorem dX8_jewelOf_82 : decode cX8_jewelOf 82 = .ok (.ireturn, 1) := by decide +kernel
theorem dX8_placeOf_0 : decode cX8_placeOf 0 = .ok (.aload_n 0, 1) := by decide +kernel
theorem dX8_placeOf_1 : decode cX8_placeOf 1 = .ok (.aload_n 0, 1) := by decide +kernel
theorem dX8_placeOf_2 : decode cX8_placeOf 2 = .ok (.getfield 13, 3) := by decide +kernel
theorem dX8_placeOf_5 : decode cX8_placeOf 5 = .ok (.iload_n 1, 1) := by decide +kernel
theorem dX8_placeOf_6 : decode cX8_placeOf 6 = .ok (.invokestatic 144, 3) := by decide +kernel
theorem dX8_placeOf_9 : decode cX8_placeOf 9 = .ok (.ifCond .ne 7, 3) := by decide +kernel
theorem dX8_placeOf_12 : decode cX8_placeOf 12 = .ok (.iconst 1, 1) := by decide +kernel
theorem dX8_placeOf_13 : decode cX8_placeOf 13 = .ok (.goto 20, 3) := by decide +kernel
theorem dX8_placeOf_16 : decode cX8_placeOf 16 = .ok (.iload_n 2, 1) := by decide +kernel
theorem dX8_placeOf_17 : decode cX8_placeOf 17 = .ok (.i2l, 1) := by decide +kernel
theorem dX8_placeOf_18 : decode cX8_placeOf 18 = .ok (.lconst 0, 1) := by decide +kernel
theorem dX8_placeOf_19 : decode cX8_placeOf 19 = .ok (.ldc2_w 127, 3) := by decide +kernel
theorem dX8_placeOf_22 : decode cX8_placeOf 22 = .ok (.invokestatic 46, 3) := by decide +kernel
theorem dX8_placeOf_25 : decode cX8_placeOf 25 = .ok (.ifCond .eq 7, 3) := by decide +kernel
theorem dX8_placeOf_28 : decode cX8_placeOf 28 = .ok (.iconst 0, 1) := by decide +kernel
theorem dX8_placeOf_29 : decode cX8_placeOf 29 = .ok (.goto 4, 3) := by decide +kernel
theorem dX8_placeOf_32 : decode cX8_placeOf 32 = .ok (.iconst 2, 1) := by decide +kernel
theorem dX8_placeOf_33 : decode cX8_placeOf 33 = .ok (.invokevirtual 115, 3) := by decide +kernel
theorem dX8_placeOf_36 : decode cX8_placeOf 36 = .ok (.ifCond .eq 5, 3) := by decide +kernel
theorem dX8_placeOf_39 : decode cX8_placeOf 39 = .ok (.iconst 0, 1) := by decide +kernel
theorem dX8_placeOf_40 : decode cX8_placeOf 40 = .ok (.ireturn, 1) := by decide +kernel
theorem dX8_placeOf_41 : decode cX8_placeOf 41 = .ok (.iload_n 2, 1) := by decide +kernel
theorem dX8_placeOf_42 : decode cX8_placeOf 42 = .ok (.ifCond .ne 14, 3) := by decide +kernel
theorem dX8_placeOf_45 : decode cX8_placeOf 45 = .ok (.aload_n 0, 1) := by decide +kernel
theorem dX8_placeOf_46 : decode cX8_placeOf 46 = .ok (.getfield 13, 3) := by decide +kernel
theorem dX8_placeOf_49 : decode cX8_placeOf 49 = .ok (.iload_n 1, 1) := by decide +kernel
theorem dX8_placeOf_50 : decode cX8_placeOf 50 = .ok (.invokestatic 68, 3) := by decide +kernel
theorem dX8_placeOf_53 : decode cX8_placeOf 53 = .ok (.goto 52, 3) := by decide +kernel
theorem dX8_placeOf_56 : decode cX8_placeOf 56 = .ok (.iload_n 2, 1) := by decide +kernel
theorem dX8_placeOf_57 : decode cX8_placeOf 57 = .ok (.iconst 1, 1) := by decide +kernel
theorem dX8_placeOf_58 : decode cX8_placeOf 58 = .ok (.if_icmp .ne 15, 3) := by decide +kernel
theorem dX8_placeOf_61 : decode cX8_placeOf 61 = .ok (.aload_n 0, 1) := by decide +kernel
theorem dX8_placeOf_62 : decode cX8_placeOf 62 = .ok (.getfield 13, 3) := by decide +kernel
theorem dX8_placeOf_65 : decode cX8_placeOf 65 = .ok (.bipush 38, 2) := by decide +kernel
theorem dX8_placeOf_67 : decode cX8_placeOf 67 = .ok (.iload_n 1, 1) := by decide +kernel
theorem dX8_placeOf_68 : decode cX8_placeOf 68 = .ok (.iadd, 1) := by decide +kernel
theorem dX8_placeOf_69 : decode cX8_placeOf 69 = .ok (.iaload, 1) := by decide +kernel
theorem dX8_placeOf_70 : decode cX8_placeOf 70 = .ok (.goto 35, 3) := by decide +kernel
theorem dX8_placeOf_73 : decode cX8_placeOf 73 = .ok (.iload_n 2, 1) := by decide +kernel
theorem dX8_placeOf_74 : decode cX8_placeOf 74 = .ok (.iconst 2, 1) := by decide +kernel
theorem dX8_placeOf_75 : decode cX8_placeOf 75 = .ok (.if_icmp .ne 14, 3) := by decide +kernel
theorem dX8_placeOf_78 : decode cX8_placeOf 78 = .ok (.aload_n 0, 1) := by decide +kernel
theorem dX8_placeOf_79 : decode cX8_placeOf 79 = .ok (.getfield 13, 3) := by decide +kernel
theorem dX8_placeOf_82 : decode cX8_placeOf 82 = .ok (.iload_n 1, 1) := by decide +kernel
theorem dX8_placeOf_83 : decode cX8_placeOf 83 = .ok (.invokestatic 64, 3) := by decide +kernel
theorem dX8_placeOf_86 : decode cX8_placeOf 86 = .ok (.goto 19, 3) := by decide +kernel
theorem dX8_placeOf_89 : decode cX8_placeOf 89 = .ok (.aload_n 0, 1) := by decide +kernel
theorem dX8_placeOf_90 : decode cX8_placeOf 90 = .ok (.getfield 13, 3) := by decide +kernel
theorem dX8_placeOf_93 : decode cX8_placeOf 93 = .ok (.iload_n 1, 1) := by decide +kernel
theorem dX8_placeOf_94 : decode cX8_placeOf 94 = .ok (.invokestatic 60, 3) := by decide +kernel
theorem dX8_placeOf_97 : decode cX8_placeOf 97 = .ok (.ifCond .eq 7, 3) := by decide +kernel
theorem dX8_placeOf_100 : decode cX8_placeOf 100 = .ok (.iconst 1, 1) := by decide +kernel
theorem dX8_placeOf_101 : decode cX8_placeOf 101 = .ok (.goto 4, 3) := by decide +kernel
theorem dX8_placeOf_104 : decode cX8_placeOf 104 = .ok (.iconst 0, 1) := by decide +kernel
theorem dX8_placeOf_105 : decode cX8_placeOf 105 = .ok (.ireturn, 1) := by decide +kernel
theorem dX8_runOf_0 : decode cX8_runOf 0 = .ok (.aload_n 0, 1) := by decide +kernel
theorem dX8_runOf_1 : decode cX8_runOf 1 = .ok (.aload_n 0, 1) := by decide +kernel
theorem dX8_runOf_2 : decode cX8_runOf 2 = .ok (.getfield 13, 3) := by decide +kernel
theorem dX8_runOf_5 : decode cX8_runOf 5 = .ok (.iload_n 1, 1) := by decide +kernel
theorem dX8_runOf_6 : decode cX8_runOf 6 = .ok (.invokestatic 157, 3) := by decide +kernel
theorem dX8_runOf_9 : decode cX8_runOf 9 = .ok (.ifCond .ne 7, 3) := by decide +kernel
theorem dX8_runOf_12 : decode cX8_runOf 12 = .ok (.iconst 1, 1) := by decide +kernel
theorem dX8_runOf_13 : decode cX8_runOf 13 = .ok (.goto 20, 3) := by decide +kernel
theorem dX8_runOf_16 : decode cX8_runOf 16 = .ok (.iload_n 2, 1) := by decide +kernel
theorem dX8_runOf_17 : decode cX8_runOf 17 = .ok (.i2l, 1) := by decide +kernel
theorem dX8_runOf_18 : decode cX8_runOf 18 = .ok (.lconst 0, 1) := by decide +kernel
theorem dX8_runOf_19 : decode cX8_runOf 19 = .ok (.ldc2_w 127, 3) := by decide +kernel
theorem dX8_runOf_22 : decode cX8_runOf 22 = .ok (.invokestatic 46, 3) := by decide +kernel
theorem dX8_runOf_25 : decode cX8_runOf 25 = .ok (.ifCond .eq 7, 3) := by decide +kernel
theorem dX8_runOf_28 : decode cX8_runOf 28 = .ok (.iconst 0, 1) := by decide +kernel
theorem dX8_runOf_29 : decode cX8_runOf 29 = .ok (.goto 4, 3) := by decide +kernel
theorem dX8_runOf_32 : decode cX8_runOf 32 = .ok (.iconst 2, 1) := by decide +kernel
theorem dX8_runOf_33 : decode cX8_runOf 33 = .ok (.invokevirtual 115, 3) := by decide +kernel
theorem dX8_runOf_36 : decode cX8_runOf 36 = .ok (.ifCond .eq 5, 3) := by decide +kernel
theorem dX8_runOf_39 : decode cX8_runOf 39 = .ok (.iconst 0, 1) := by decide +kernel
theorem dX8_runOf_40 : decode cX8_runOf 40 = .ok (.ireturn, 1) := by decide +kernel
theorem dX8_runOf_41 : decode cX8_runOf 41 = .ok (.aload_n 0, 1) := by decide +kernel
theorem dX8_runOf_42 : decode cX8_runOf 42 = .ok (.getfield 13, 3) := by decide +kernel
theorem dX8_runOf_45 : decode cX8_runOf 45 = .ok (.iload_n 1, 1) := by decide +kernel
theorem dX8_runOf_46 : decode cX8_runOf 46 = .ok (.invokestatic 101, 3) := by decide +kernel
theorem dX8_runOf_49 : decode cX8_runOf 49 = .ok (.istore_n 3, 1) := by decide +kernel
theorem dX8_runOf_50 : decode cX8_runOf 50 = .ok (.aload_n 0, 1) := by decide +kernel
theorem dX8_runOf_51 : decode cX8_runOf 51 = .ok (.getfield 13, 3) := by decide +kernel
theorem dX8_runOf_54 : decode cX8_runOf 54 = .ok (.iload_n 1, 1) := by decide +kernel
theorem dX8_runOf_55 : decode cX8_runOf 55 = .ok (.invokestatic 190, 3) := by decide +kernel
theorem dX8_runOf_58 : decode cX8_runOf 58 = .ok (.istore 4, 2) := by decide +kernel
theorem dX8_runOf_60 : decode cX8_runOf 60 = .ok (.iconst 0, 1) := by decide +kernel
theorem dX8_runOf_61 : decode cX8_runOf 61 = .ok (.istore 5, 2) := by decide +kernel
theorem dX8_runOf_63 : decode cX8_runOf 63 = .ok (.iload_n 3, 1) := by decide +kernel
theorem dX8_runOf_64 : decode cX8_runOf 64 = .ok (.istore 6, 2) := by decide +kernel
theorem dX8_runOf_66 : decode cX8_runOf 66 = .ok (.iload 6, 2) := by decide +kernel
theorem dX8_runOf_68 : decode cX8_runOf 68 = .ok (.iload_n 3, 1) := by decide +kernel
theorem dX8_runOf_69 : decode cX8_runOf 69 = .ok (.iload 4, 2) := by decide +kernel
theorem dX8_runOf_71 : decode cX8_runOf 71 = .ok (.iadd, 1) := by decide +kernel
theorem dX8_runOf_72 : decode cX8_runOf 72 = .ok (.if_icmp .ge 30, 3) := by decide +kernel
theorem dX8_runOf_75 : decode cX8_runOf 75 = .ok (.iload 5, 2) := by decide +kernel
theorem dX8_runOf_77 : decode cX8_runOf 77 = .ok (.aload_n 0, 1) := by decide +kernel
theorem dX8_runOf_78 : decode cX8_runOf 78 = .ok (.getfield 13, 3) := by decide +kernel
theorem dX8_runOf_81 : decode cX8_runOf 81 = .ok (.aload_n 0, 1) := by decide +kernel
theorem dX8_runOf_82 : decode cX8_runOf 82 = .ok (.getfield 13, 3) := by decide +kernel
theorem dX8_runOf_85 : decode cX8_runOf 85 = .ok (.iload 6, 2) := by decide +kernel
theorem dX8_runOf_87 : decode cX8_runOf 87 = .ok (.invokestatic 68, 3) := by decide +kernel
theorem dX8_runOf_90 : decode cX8_runOf 90 = .ok (.invokestatic 71, 3) := by decide +kernel
theorem dX8_runOf_93 : decode cX8_runOf 93 = .ok (.iadd, 1) := by decide +kernel
theorem dX8_runOf_94 : decode cX8_runOf 94 = .ok (.istore 5, 2) := by decide +kernel
theorem dX8_runOf_96 : decode cX8_runOf 96 = .ok (.iinc 6 1, 3) := by decide +kernel
theorem dX8_runOf_99 : decode cX8_runOf 99 = .ok (.goto (-33), 3) := by decide +kernel
theorem dX8_runOf_102 : decode cX8_runOf 102 = .ok (.iload_n 2, 1) := by decide +kernel
theorem dX8_runOf_103 : decode cX8_runOf 103 = .ok (.ifCond .ne 7, 3) := by decide +kernel
theorem dX8_runOf_106 : decode cX8_runOf 106 = .ok (.iload_n 3, 1) := by decide +kernel
theorem dX8_runOf_107 : decode cX8_runOf 107 = .ok (.goto 32, 3) := by decide +kernel
theorem dX8_runOf_110 : decode cX8_runOf 110 = .ok (.iload_n 2, 1) := by decide +kernel
theorem dX8_runOf_111 : decode cX8_runOf 111 = .ok (.iconst 1, 1) := by decide +kernel
theorem dX8_runOf_112 : decode cX8_runOf 112 = .ok (.if_icmp .ne 8, 3) := by decide +kernel
theorem dX8_runOf_115 : decode cX8_runOf 115 = .ok (.iload 4, 2) := by decide +kernel
theorem dX8_runOf_117 : decode cX8_runOf 117 = .ok (.goto 22, 3) := by decide +kernel
theorem dX8_runOf_120 : decode cX8_runOf 120 = .ok (.iload_n 2, 1) := by decide +kernel
theorem dX8_runOf_121 : decode cX8_runOf 121 = .ok (.iconst 2, 1) := by decide +kernel
theorem dX8_runOf_122 : decode cX8_runOf 122 = .ok (.if_icmp .ne 15, 3) := by decide +kernel
theorem dX8_runOf_125 : decode cX8_runOf 125 = .ok (.aload_n 0, 1) := by decide +kernel
theorem dX8_runOf_126 : decode cX8_runOf 126 = .ok (.getfield 13, 3) := by decide +kernel
theorem dX8_runOf_129 : decode cX8_runOf 129 = .ok (.bipush 38, 2) := by decide +kernel
theorem dX8_runOf_131 : decode cX8_runOf 131 = .ok (.iload_n 3, 1) := by decide +kernel
theorem dX8_runOf_132 : decode cX8_runOf 132 = .ok (.iadd, 1) := by decide +kernel
theorem dX8_runOf_133 : decode cX8_runOf 133 = .ok (.iaload, 1) := by decide +kernel
theorem dX8_runOf_134 : decode cX8_runOf 134 = .ok (.goto 5, 3) := by decide +kernel
theorem dX8_runOf_137 : decode cX8_runOf 137 = .ok (.iload 5, 2) := by decide +kernel
theorem dX8_runOf_139 : decode cX8_runOf 139 = .ok (.ireturn, 1) := by decide +kernel
theorem dX8_has_0 : decode cX8_has 0 = .ok (.aload_n 0, 1) := by decide +kernel
theorem dX8_has_1 : decode cX8_has 1 = .ok (.iload_n 1, 1) := by decide +kernel
theorem dX8_has_2 : decode cX8_has 2 = .ok (.i2l, 1) := by decide +kernel
theorem dX8_has_3 : decode cX8_has 3 = .ok (.lconst 0, 1) := by decide +kernel
theorem dX8_has_4 : decode cX8_has 4 = .ok (.lconst 1, 1) := by decide +kernel
theorem dX8_has_5 : decode cX8_has 5 = .ok (.invokestatic 46, 3) := by decide +kernel
theorem dX8_has_8 : decode cX8_has 8 = .ok (.ifCond .eq 19, 3) := by decide +kernel
theorem dX8_has_11 : decode cX8_has 11 = .ok (.iload_n 2, 1) := by decide +kernel
theorem dX8_has_12 : decode cX8_has 12 = .ok (.i2l, 1) := by decide +kernel
theorem dX8_has_13 : decode cX8_has 13 = .ok (.lconst 0, 1) := by decide +kernel
theorem dX8_has_14 : decode cX8_has 14 = .ok (.ldc2_w 127, 3) := by decide +kernel
theorem dX8_has_17 : decode cX8_has 17 = .ok (.invokestatic 46, 3) := by decide +kernel
theorem dX8_has_20 : decode cX8_has 20 = .ok (.ifCond .eq 7, 3) := by decide +kernel
theorem dX8_has_23 : decode cX8_has 23 = .ok (.iconst 0, 1) := by decide +kernel
theorem dX8_has_24 : decode cX8_has 24 = .ok (.goto 4, 3) := by decide +kernel
theorem dX8_has_27 : decode cX8_has 27 = .ok (.iconst 1, 1) := by decide +kernel
theorem dX8_has_28 : decode cX8_has 28 = .ok (.invokevirtual 115, 3) := by decide +kernel
theorem dX8_has_31 : decode cX8_has 31 = .ok (.ifCond .eq 5, 3) := by decide +kernel
theorem dX8_has_34 : decode cX8_has 34 = .ok (.iconst 0, 1) := by decide +kernel
theorem dX8_has_35 : decode cX8_has 35 = .ok (.ireturn, 1) := by decide +kernel
theorem dX8_has_36 : decode cX8_has 36 = .ok (.aload_n 0, 1) := by decide +kernel
theorem dX8_has_37 : decode cX8_has 37 = .ok (.getfield 13, 3) := by decide +kernel
theorem dX8_has_40 : decode cX8_has 40 = .ok (.iload_n 1, 1) := by decide +kernel
theorem dX8_has_41 : decode cX8_has 41 = .ok (.iload_n 2, 1) := by decide +kernel
theorem dX8_has_42 : decode cX8_has 42 = .ok (.invokestatic 74, 3) := by decide +kernel
theorem dX8_has_45 : decode cX8_has 45 = .ok (.ireturn, 1) := by decide +kernel
theorem dX8_remember_0 : decode cX8_remember 0 = .ok (.aload_n 0, 1) := by decide +kernel
theorem dX8_remember_1 : decode cX8_remember 1 = .ok (.getfield 179, 3) := by decide +kernel
theorem dX8_remember_4 : decode cX8_remember 4 = .ok (.bipush 14, 2) := by decide +kernel
theorem dX8_remember_6 : decode cX8_remember 6 = .ok (.if_icmp .ne 43, 3) := by decide +kernel
theorem dX8_remember_9 : decode cX8_remember 9 = .ok (.iconst 0, 1) := by decide +kernel
theorem dX8_remember_10 : decode cX8_remember 10 = .ok (.istore_n 1, 1) := by decide +kernel
theorem dX8_remember_11 : decode cX8_remember 11 = .ok (.iload_n 1, 1) := by decide +kernel
theorem dX8_remember_12 : decode cX8_remember 12 = .ok (.sipush 702, 3) := by decide +kernel
theorem dX8_remember_15 : decode cX8_remember 15 = .ok (.if_icmp .ge 24, 3) := by decide +kernel
theorem dX8_remember_18 : decode cX8_remember 18 = .ok (.aload_n 0, 1) := by decide +kernel
theorem dX8_remember_19 : decode cX8_remember 19 = .ok (.getfield 19, 3) := by decide +kernel
theorem dX8_remember_22 : decode cX8_remember 22 = .ok (.iload_n 1, 1) := by decide +kernel
theorem dX8_remember_23 : decode cX8_remember 23 = .ok (.aload_n 0, 1) := by decide +kernel
theorem dX8_remember_24 : decode cX8_remember 24 = .ok (.getfield 19, 3) := by decide +kernel
theorem dX8_remember_27 : decode cX8_remember 27 = .ok (.iload_n 1, 1) := by decide +kernel
theorem dX8_remember_28 : decode cX8_remember 28 = .ok (.bipush 54, 2) := by decide +kernel
theorem dX8_remember_30 : decode cX8_remember 30 = .ok (.iadd, 1) := by decide +kernel
theorem dX8_remember_31 : decode cX8_remember 31 = .ok (.iaload, 1) := by decide +kernel
theorem dX8_remember_32 : decode cX8_remember 32 = .ok (.iastore, 1) := by decide +kernel
theorem dX8_remember_33 : decode cX8_remember 33 = .ok (.iinc 1 1, 3) := by decide +kernel
theorem dX8_remember_36 : decode cX8_remember 36 = .ok (.goto (-25), 3) := by decide +kernel
theorem dX8_remember_39 : decode cX8_remember 39 = .ok (.aload_n 0, 1) := by decide +kernel
theorem dX8_remember_40 : decode cX8_remember 40 = .ok (.dup, 1) := by decide +kernel
theorem dX8_remember_41 : decode cX8_remember 41 = .ok (.getfield 179, 3) := by decide +kernel
theorem dX8_remember_44 : decode cX8_remember 44 = .ok (.iconst 1, 1) := by decide +kernel
theorem dX8_remember_45 : decode cX8_remember 45 = .ok (.isub, 1) := by decide +kernel
theorem dX8_remember_46 : decode cX8_remember 46 = .ok (.putfield 179, 3) := by decide +kernel
theorem dX8_remember_49 : decode cX8_remember 49 = .ok (.aload_n 0, 1) := by decide +kernel
theorem dX8_remember_50 : decode cX8_remember 50 = .ok (.getfield 13, 3) := by decide +kernel
theorem dX8_remember_53 : decode cX8_remember 53 = .ok (.iconst 0, 1) := by decide +kernel
theorem dX8_remember_54 : decode cX8_remember 54 = .ok (.aload_n 0, 1) := by decide +kernel
theorem dX8_remember_55 : decode cX8_remember 55 = .ok (.getfield 19, 3) := by decide +kernel
theorem dX8_remember_58 : decode cX8_remember 58 = .ok (.bipush 54, 2) := by decide +kernel
theorem dX8_remember_60 : decode cX8_remember 60 = .ok (.aload_n 0, 1) := by decide +kernel
theorem dX8_remember_61 : decode cX8_remember 61 = .ok (.getfield 179, 3) := by decide +kernel
theorem dX8_remember_64 : decode cX8_remember 64 = .ok (.imul, 1) := by decide +kernel
theorem dX8_remember_65 : decode cX8_remember 65 = .ok (.invokestatic 175, 3) := by decide +kernel
theorem dX8_remember_68 : decode cX8_remember 68 = .ok (.aload_n 0, 1) := by decide +kernel
theorem dX8_remember_69 : decode cX8_remember 69 = .ok (.dup, 1) := by decide +kernel
theorem dX8_remember_70 : decode cX8_remember 70 = .ok (.getfield 179, 3) := by decide +kernel
theorem dX8_remember_73 : decode cX8_remember 73 = .ok (.iconst 1, 1) := by decide +kernel
theorem dX8_remember_74 : decode cX8_remember 74 = .ok (.iadd, 1) := by decide +kernel
theorem dX8_remember_75 : decode cX8_remember 75 = .ok (.putfield 179, 3) := by decide +kernel
theorem dX8_remember_78 : decode cX8_remember 78 = .ok (.return_, 1) := by decide +kernel
theorem dX8_jewel_0 : decode cX8_jewel 0 = .ok (.aload_n 0, 1) := by decide +kernel
theorem dX8_jewel_1 : decode cX8_jewel 1 = .ok (.iload_n 1, 1) := by decide +kernel
theorem dX8_jewel_2 : decode cX8_jewel 2 = .ok (.i2l, 1) := by decide +kernel
theorem dX8_jewel_3 : decode cX8_jewel 3 = .ok (.lconst 0, 1) := by decide +kernel
theorem dX8_jewel_4 : decode cX8_jewel 4 = .ok (.ldc2_w 127, 3) := by decide +kernel
theorem dX8_jewel_7 : decode cX8_jewel 7 = .ok (.invokestatic 46, 3) := by decide +kernel
theorem dX8_jewel_10 : decode cX8_jewel 10 = .ok (.ifCond .ne 7, 3) := by decide +kernel
theorem dX8_jewel_13 : decode cX8_jewel 13 = .ok (.iconst 1, 1) := by decide +kernel
theorem dX8_jewel_14 : decode cX8_jewel 14 = .ok (.goto 35, 3) := by decide +kernel
theorem dX8_jewel_17 : decode cX8_jewel 17 = .ok (.iload_n 2, 1) := by decide +kernel
theorem dX8_jewel_18 : decode cX8_jewel 18 = .ok (.i2l, 1) := by decide +kernel
theorem dX8_jewel_19 : decode cX8_jewel 19 = .ok (.lconst 1, 1) := by decide +kernel
theorem dX8_jewel_20 : decode cX8_jewel 20 = .ok (.ldc2_w 122, 3) := by decide +kernel
theorem dX8_jewel_23 : decode cX8_jewel 23 = .ok (.invokestatic 46, 3) := by decide +kernel
theorem dX8_jewel_26 : decode cX8_jewel 26 = .ok (.ifCond .ne 7, 3) := by decide +kernel
theorem dX8_jewel_29 : decode cX8_jewel 29 = .ok (.iconst 2, 1) := by decide +kernel
theorem dX8_jewel_30 : decode cX8_jewel 30 = .ok (.goto 19, 3) := by decide +kernel
theorem dX8_jewel_33 : decode cX8_jewel 33 = .ok (.aload_n 0, 1) := by decide +kernel
theorem dX8_jewel_34 : decode cX8_jewel 34 = .ok (.getfield 13, 3) := by decide +kernel
theorem dX8_jewel_37 : decode cX8_jewel 37 = .ok (.iconst 0, 1) := by decide +kernel
theorem dX8_jewel_38 : decode cX8_jewel 38 = .ok (.iaload, 1) := by decide +kernel
theorem dX8_jewel_39 : decode cX8_jewel 39 = .ok (.bipush 16, 2) := by decide +kernel
theorem dX8_jewel_41 : decode cX8_jewel 41 = .ok (.if_icmp .ge 7, 3) := by decide +kernel
theorem dX8_jewel_44 : decode cX8_jewel 44 = .ok (.iconst 0, 1) := by decide +kernel
theorem dX8_jewel_45 : decode cX8_jewel 45 = .ok (.goto 4, 3) := by decide +kernel
theorem dX8_jewel_48 : decode cX8_jewel 48 = .ok (.iconst 3, 1) := by decide +kernel
theorem dX8_jewel_49 : decode cX8_jewel 49 = .ok (.invokevirtual 115, 3) := by decide +kernel
theorem dX8_jewel_52 : decode cX8_jewel 52 = .ok (.ifCond .eq 5, 3) := by decide +kernel
theorem dX8_jewel_55 : decode cX8_jewel 55 = .ok (.iconst 0, 1) := by decide +kernel
theorem dX8_jewel_56 : decode cX8_jewel 56 = .ok (.ireturn, 1) := by decide +kernel
theorem dX8_jewel_57 : decode cX8_jewel 57 = .ok (.aload_n 0, 1) := by decide +kernel
theorem dX8_jewel_58 : decode cX8_jewel 58 = .ok (.invokevirtual 193, 3) := by decide +kernel
theorem dX8_jewel_61 : decode cX8_jewel 61 = .ok (.aload_n 0, 1) := by decide +kernel
theorem dX8_jewel_62 : decode cX8_jewel 62 = .ok (.getfield 13, 3) := by decide +kernel
theorem dX8_jewel_65 : decode cX8_jewel 65 = .ok (.iload_n 1, 1) := by decide +kernel
theorem dX8_jewel_66 : decode cX8_jewel 66 = .ok (.iload_n 2, 1) := by decide +kernel
theorem dX8_jewel_67 : decode cX8_jewel 67 = .ok (.invokestatic 133, 3) := by decide +kernel
theorem dX8_jewel_70 : decode cX8_jewel 70 = .ok (.ireturn, 1) := by decide +kernel
theorem dX8_exchange_0 : decode cX8_exchange 0 = .ok (.aload_n 0, 1) := by decide +kernel
theorem dX8_exchange_1 : decode cX8_exchange 1 = .ok (.aload_n 0, 1) := by decide +kernel
theorem dX8_exchange_2 : decode cX8_exchange 2 = .ok (.getfield 13, 3) := by decide +kernel
theorem dX8_exchange_5 : decode cX8_exchange 5 = .ok (.iload_n 1, 1) := by decide +kernel
theorem dX8_exchange_6 : decode cX8_exchange 6 = .ok (.invokestatic 144, 3) := by decide +kernel
theorem dX8_exchange_9 : decode cX8_exchange 9 = .ok (.ifCond .eq 18, 3) := by decide +kernel
theorem dX8_exchange_12 : decode cX8_exchange 12 = .ok (.aload_n 0, 1) := by decide +kernel
theorem dX8_exchange_13 : decode cX8_exchange 13 = .ok (.getfield 13, 3) := by decide +kernel
theorem dX8_exchange_16 : decode cX8_exchange 16 = .ok (.iload_n 2, 1) := by decide +kernel
theorem dX8_exchange_17 : decode cX8_exchange 17 = .ok (.invokestatic 144, 3) := by decide +kernel
theorem dX8_exchange_20 : decode cX8_exchange 20 = .ok (.ifCond .eq 7, 3) := by decide +kernel
theorem dX8_exchange_23 : decode cX8_exchange 23 = .ok (.iconst 0, 1) := by decide +kernel
theorem dX8_exchange_24 : decode cX8_exchange 24 = .ok (.goto 4, 3) := by decide +kernel
theorem dX8_exchange_27 : decode cX8_exchange 27 = .ok (.iconst 1, 1) := by decide +kernel
theorem dX8_exchange_28 : decode cX8_exchange 28 = .ok (.invokevirtual 115, 3) := by decide +kernel
theorem dX8_exchange_31 : decode cX8_exchange 31 = .ok (.ifCond .eq 5, 3) := by decide +kernel
theorem dX8_exchange_34 : decode cX8_exchange 34 = .ok (.iconst 0, 1) := by decide +kernel
theorem dX8_exchange_35 : decode cX8_exchange 35 = .ok (.ireturn, 1) := by decide +kernel
theorem dX8_exchange_36 : decode cX8_exchange 36 = .ok (.aload_n 0, 1) := by decide +kernel
theorem dX8_exchange_37 : decode cX8_exchange 37 = .ok (.invokevirtual 193, 3) := by decide +kernel
theorem dX8_exchange_40 : decode cX8_exchange 40 = .ok (.aload_n 0, 1) := by decide +kernel
theorem dX8_exchange_41 : decode cX8_exchange 41 = .ok (.getfield 13, 3) := by decide +kernel
theorem dX8_exchange_44 : decode cX8_exchange 44 = .ok (.iload_n 1, 1) := by decide +kernel
theorem dX8_exchange_45 : decode cX8_exchange 45 = .ok (.iload_n 2, 1) := by decide +kernel
theorem dX8_exchange_46 : decode cX8_exchange 46 = .ok (.invokestatic 98, 3) := by decide +kernel
theorem dX8_exchange_49 : decode cX8_exchange 49 = .ok (.ireturn, 1) := by decide +kernel
theorem dX8_breakAt_0 : decode cX8_breakAt 0 = .ok (.aload_n 0, 1) := by decide +kernel
theorem dX8_breakAt_1 : decode cX8_breakAt 1 = .ok (.aload_n 0, 1) := by decide +kernel
theorem dX8_breakAt_2 : decode cX8_breakAt 2 = .ok (.getfield 13, 3) := by decide +kernel
theorem dX8_breakAt_5 : decode cX8_breakAt 5 = .ok (.iload_n 1, 1) := by decide +kernel
theorem dX8_breakAt_6 : decode cX8_breakAt 6 = .ok (.invokestatic 144, 3) := by decide +kernel
theorem dX8_breakAt_9 : decode cX8_breakAt 9 = .ok (.ifCond .eq 7, 3) := by decide +kernel
theorem dX8_breakAt_12 : decode cX8_breakAt 12 = .ok (.iconst 0, 1) := by decide +kernel
theorem dX8_breakAt_13 : decode cX8_breakAt 13 = .ok (.goto 4, 3) := by decide +kernel
theorem dX8_breakAt_16 : decode cX8_breakAt 16 = .ok (.iconst 1, 1) := by decide +kernel
theorem dX8_breakAt_17 : decode cX8_breakAt 17 = .ok (.invokevirtual 115, 3) := by decide +kernel
theorem dX8_breakAt_20 : decode cX8_breakAt 20 = .ok (.ifCond .eq 5, 3) := by decide +kernel
theorem dX8_breakAt_23 : decode cX8_breakAt 23 = .ok (.iconst 0, 1) := by decide +kernel
theorem dX8_breakAt_24 : decode cX8_breakAt 24 = .ok (.ireturn, 1) := by decide +kernel
theorem dX8_breakAt_25 : decode cX8_breakAt 25 = .ok (.aload_n 0, 1) := by decide +kernel
theorem dX8_breakAt_26 : decode cX8_breakAt 26 = .ok (.invokevirtual 193, 3) := by decide +kernel
theorem dX8_breakAt_29 : decode cX8_breakAt 29 = .ok (.aload_n 0, 1) := by decide +kernel
theorem dX8_breakAt_30 : decode cX8_breakAt 30 = .ok (.getfield 13, 3) := by decide +kernel
theorem dX8_breakAt_33 : decode cX8_breakAt 33 = .ok (.iload_n 1, 1) := by decide +kernel
theorem dX8_breakAt_34 : decode cX8_breakAt 34 = .ok (.invokestatic 147, 3) := by decide +kernel
theorem dX8_breakAt_37 : decode cX8_breakAt 37 = .ok (.ireturn, 1) := by decide +kernel
theorem dX8_turnRound_0 : decode cX8_turnRound 0 = .ok (.aload_n 0, 1) := by decide +kernel
theorem dX8_turnRound_1 : decode cX8_turnRound 1 = .ok (.iconst 0, 1) := by decide +kernel
theorem dX8_turnRound_2 : decode cX8_turnRound 2 = .ok (.putfield 39, 3) := by decide +kernel
theorem dX8_turnRound_5 : decode cX8_turnRound 5 = .ok (.aload_n 0, 1) := by decide +kernel
theorem dX8_turnRound_6 : decode cX8_turnRound 6 = .ok (.invokevirtual 193, 3) := by decide +kernel
theorem dX8_turnRound_9 : decode cX8_turnRound 9 = .ok (.aload_n 0, 1) := by decide +kernel
theorem dX8_turnRound_10 : decode cX8_turnRound 10 = .ok (.getfield 13, 3) := by decide +kernel
theorem dX8_turnRound_13 : decode cX8_turnRound 13 = .ok (.invokestatic 166, 3) := by decide +kernel
theorem dX8_turnRound_16 : decode cX8_turnRound 16 = .ok (.ireturn, 1) := by decide +kernel
theorem dX8_cut_0 : decode cX8_cut 0 = .ok (.aload_n 0, 1) := by decide +kernel
theorem dX8_cut_1 : decode cX8_cut 1 = .ok (.aload_n 0, 1) := by decide +kernel
theorem dX8_cut_2 : decode cX8_cut 2 = .ok (.getfield 13, 3) := by decide +kernel
theorem dX8_cut_5 : decode cX8_cut 5 = .ok (.iload_n 1, 1) := by decide +kernel
theorem dX8_cut_6 : decode cX8_cut 6 = .ok (.invokestatic 150, 3) := by decide +kernel
theorem dX8_cut_9 : decode cX8_cut 9 = .ok (.ifCond .eq 7, 3) := by decide +kernel
theorem dX8_cut_12 : decode cX8_cut 12 = .ok (.iconst 0, 1) := by decide +kernel
theorem dX8_cut_13 : decode cX8_cut 13 = .ok (.goto 4, 3) := by decide +kernel
theorem dX8_cut_16 : decode cX8_cut 16 = .ok (.iconst 1, 1) := by decide +kernel
theorem dX8_cut_17 : decode cX8_cut 17 = .ok (.invokevirtual 115, 3) := by decide +kernel
theorem dX8_cut_20 : decode cX8_cut 20 = .ok (.ifCond .eq 5, 3) := by decide +kernel
theorem dX8_cut_23 : decode cX8_cut 23 = .ok (.iconst 0, 1) := by decide +kernel
theorem dX8_cut_24 : decode cX8_cut 24 = .ok (.ireturn, 1) := by decide +kernel
theorem dX8_cut_25 : decode cX8_cut 25 = .ok (.aload_n 0, 1) := by decide +kernel
theorem dX8_cut_26 : decode cX8_cut 26 = .ok (.invokevirtual 193, 3) := by decide +kernel
theorem dX8_cut_29 : decode cX8_cut 29 = .ok (.aload_n 0, 1) := by decide +kernel
theorem dX8_cut_30 : decode cX8_cut 30 = .ok (.getfield 13, 3) := by decide +kernel
theorem dX8_cut_33 : decode cX8_cut 33 = .ok (.iload_n 1, 1) := by decide +kernel
theorem dX8_cut_34 : decode cX8_cut 34 = .ok (.iload_n 2, 1) := by decide +kernel
theorem dX8_cut_35 : decode cX8_cut 35 = .ok (.invokestatic 153, 3) := by decide +kernel
theorem dX8_cut_38 : decode cX8_cut 38 = .ok (.ireturn, 1) := by decide +kernel
theorem dX8_give_0 : decode cX8_give 0 = .ok (.aload_n 0, 1) := by decide +kernel
theorem dX8_give_1 : decode cX8_give 1 = .ok (.aload_n 0, 1) := by decide +kernel
theorem dX8_give_2 : decode cX8_give 2 = .ok (.getfield 13, 3) := by decide +kernel
theorem dX8_give_5 : decode cX8_give 5 = .ok (.iload_n 1, 1) := by decide +kernel
theorem dX8_give_6 : decode cX8_give 6 = .ok (.invokestatic 157, 3) := by decide +kernel
theorem dX8_give_9 : decode cX8_give 9 = .ok (.ifCond .ne 7, 3) := by decide +kernel
theorem dX8_give_12 : decode cX8_give 12 = .ok (.iconst 1, 1) := by decide +kernel
theorem dX8_give_13 : decode cX8_give 13 = .ok (.goto 15, 3) := by decide +kernel
theorem dX8_give_16 : decode cX8_give 16 = .ok (.iload_n 2, 1) := by decide +kernel
theorem dX8_give_17 : decode cX8_give 17 = .ok (.invokestatic 196, 3) := by decide +kernel
theorem dX8_give_20 : decode cX8_give 20 = .ok (.ifCond .eq 7, 3) := by decide +kernel
theorem dX8_give_23 : decode cX8_give 23 = .ok (.iconst 0, 1) := by decide +kernel
theorem dX8_give_24 : decode cX8_give 24 = .ok (.goto 4, 3) := by decide +kernel
theorem dX8_give_27 : decode cX8_give 27 = .ok (.iconst 2, 1) := by decide +kernel
theorem dX8_give_28 : decode cX8_give 28 = .ok (.invokevirtual 115, 3) := by decide +kernel
theorem dX8_give_31 : decode cX8_give 31 = .ok (.ifCond .eq 5, 3) := by decide +kernel
theorem dX8_give_34 : decode cX8_give 34 = .ok (.iconst 0, 1) := by decide +kernel
theorem dX8_give_35 : decode cX8_give 35 = .ok (.ireturn, 1) := by decide +kernel
theorem dX8_give_36 : decode cX8_give 36 = .ok (.aload_n 0, 1) := by decide +kernel
theorem dX8_give_37 : decode cX8_give 37 = .ok (.invokevirtual 193, 3) := by decide +kernel
theorem dX8_give_40 : decode cX8_give 40 = .ok (.aload_n 0, 1) := by decide +kernel
theorem dX8_give_41 : decode cX8_give 41 = .ok (.getfield 13, 3) := by decide +kernel
theorem dX8_give_44 : decode cX8_give 44 = .ok (.iload_n 1, 1) := by decide +kernel
theorem dX8_give_45 : decode cX8_give 45 = .ok (.iload_n 2, 1) := by decide +kernel
theorem dX8_give_46 : decode cX8_give 46 = .ok (.invokestatic 107, 3) := by decide +kernel
theorem dX8_give_49 : decode cX8_give 49 = .ok (.ireturn, 1) := by decide +kernel
theorem dX8_take_0 : decode cX8_take 0 = .ok (.aload_n 0, 1) := by decide +kernel
theorem dX8_take_1 : decode cX8_take 1 = .ok (.aload_n 0, 1) := by decide +kernel
theorem dX8_take_2 : decode cX8_take 2 = .ok (.getfield 13, 3) := by decide +kernel
theorem dX8_take_5 : decode cX8_take 5 = .ok (.iload_n 1, 1) := by decide +kernel
theorem dX8_take_6 : decode cX8_take 6 = .ok (.invokestatic 157, 3) := by decide +kernel
theorem dX8_take_9 : decode cX8_take 9 = .ok (.ifCond .eq 7, 3) := by decide +kernel
theorem dX8_take_12 : decode cX8_take 12 = .ok (.iconst 0, 1) := by decide +kernel
theorem dX8_take_13 : decode cX8_take 13 = .ok (.goto 4, 3) := by decide +kernel
theorem dX8_take_16 : decode cX8_take 16 = .ok (.iconst 1, 1) := by decide +kernel
theorem dX8_take_17 : decode cX8_take 17 = .ok (.invokevirtual 115, 3) := by decide +kernel
theorem dX8_take_20 : decode cX8_take 20 = .ok (.ifCond .eq 5, 3) := by decide +kernel
theorem dX8_take_23 : decode cX8_take 23 = .ok (.iconst 0, 1) := by decide +kernel
theorem dX8_take_24 : decode cX8_take 24 = .ok (.ireturn, 1) := by decide +kernel
theorem dX8_take_25 : decode cX8_take 25 = .ok (.aload_n 0, 1) := by decide +kernel
theorem dX8_take_26 : decode cX8_take 26 = .ok (.invokevirtual 193, 3) := by decide +kernel
theorem dX8_take_29 : decode cX8_take 29 = .ok (.aload_n 0, 1) := by decide +kernel
theorem dX8_take_30 : decode cX8_take 30 = .ok (.getfield 13, 3) := by decide +kernel
theorem dX8_take_33 : decode cX8_take 33 = .ok (.iload_n 1, 1) := by decide +kernel
theorem dX8_take_34 : decode cX8_take 34 = .ok (.invokestatic 160, 3) := by decide +kernel
theorem dX8_take_37 : decode cX8_take 37 = .ok (.ireturn, 1) := by decide +kernel
theorem dX8_deal_0 : decode cX8_deal 0 = .ok (.aload_n 0, 1) := by decide +kernel
theorem dX8_deal_1 : decode cX8_deal 1 = .ok (.iload_n 1, 1) := by decide +kernel
theorem dX8_deal_2 : decode cX8_deal 2 = .ok (.i2l, 1) := by decide +kernel
theorem dX8_deal_3 : decode cX8_deal 3 = .ok (.lconst 0, 1) := by decide +kernel
theorem dX8_deal_4 : decode cX8_deal 4 = .ok (.lconst 1, 1) := by decide +kernel
theorem dX8_deal_5 : decode cX8_deal 5 = .ok (.invokestatic 46, 3) := by decide +kernel
theorem dX8_deal_8 : decode cX8_deal 8 = .ok (.ifCond .eq 7, 3) := by decide +kernel
theorem dX8_deal_11 : decode cX8_deal 11 = .ok (.iconst 0, 1) := by decide +kernel
theorem dX8_deal_12 : decode cX8_deal 12 = .ok (.goto 4, 3) := by decide +kernel
theorem dX8_deal_15 : decode cX8_deal 15 = .ok (.iconst 1, 1) := by decide +kernel
theorem dX8_deal_16 : decode cX8_deal 16 = .ok (.invokevirtual 115, 3) := by decide +kernel
theorem dX8_deal_19 : decode cX8_deal 19 = .ok (.ifCond .eq 5, 3) := by decide +kernel
theorem dX8_deal_22 : decode cX8_deal 22 = .ok (.iconst 0, 1) := by decide +kernel
theorem dX8_deal_23 : decode cX8_deal 23 = .ok (.ireturn, 1) := by decide +kernel
theorem dX8_deal_24 : decode cX8_deal 24 = .ok (.aload_n 0, 1) := by decide +kernel
theorem dX8_deal_25 : decode cX8_deal 25 = .ok (.invokevirtual 193, 3) := by decide +kernel
theorem dX8_deal_28 : decode cX8_deal 28 = .ok (.aload_n 0, 1) := by decide +kernel
theorem dX8_deal_29 : decode cX8_deal 29 = .ok (.getfield 13, 3) := by decide +kernel
theorem dX8_deal_32 : decode cX8_deal 32 = .ok (.iload_n 1, 1) := by decide +kernel
theorem dX8_deal_33 : decode cX8_deal 33 = .ok (.invokestatic 163, 3) := by decide +kernel
theorem dX8_deal_36 : decode cX8_deal 36 = .ok (.ireturn, 1) := by decide +kernel
theorem dX8_divide_0 : decode cX8_divide 0 = .ok (.aload_n 0, 1) := by decide +kernel
theorem dX8_divide_1 : decode cX8_divide 1 = .ok (.aload_n 0, 1) := by decide +kernel
theorem dX8_divide_2 : decode cX8_divide 2 = .ok (.getfield 13, 3) := by decide +kernel
theorem dX8_divide_5 : decode cX8_divide 5 = .ok (.invokevirtual 199, 3) := by decide +kernel
theorem dX8_divide_8 : decode cX8_divide 8 = .ok (.istore_n 1, 1) := by decide +kernel
theorem dX8_divide_9 : decode cX8_divide 9 = .ok (.aload_n 0, 1) := by decide +kernel
theorem dX8_divide_10 : decode cX8_divide 10 = .ok (.iload_n 1, 1) := by decide +kernel
theorem dX8_divide_11 : decode cX8_divide 11 = .ok (.iconst (-1), 1) := by decide +kernel
theorem dX8_divide_12 : decode cX8_divide 12 = .ok (.if_icmp .ne 7, 3) := by decide +kernel
theorem dX8_divide_15 : decode cX8_divide 15 = .ok (.iconst 1, 1) := by decide +kernel
theorem dX8_divide_16 : decode cX8_divide 16 = .ok (.goto 4, 3) := by decide +kernel
theorem dX8_divide_19 : decode cX8_divide 19 = .ok (.iconst 0, 1) := by decide +kernel
theorem dX8_divide_20 : decode cX8_divide 20 = .ok (.invokevirtual 115, 3) := by decide +kernel
theorem dX8_divide_23 : decode cX8_divide 23 = .ok (.ifCond .eq 5, 3) := by decide +kernel
theorem dX8_divide_26 : decode cX8_divide 26 = .ok (.iconst 0, 1) := by decide +kernel
theorem dX8_divide_27 : decode cX8_divide 27 = .ok (.ireturn, 1) := by decide +kernel
theorem dX8_divide_28 : decode cX8_divide 28 = .ok (.aload_n 0, 1) := by decide +kernel
theorem dX8_divide_29 : decode cX8_divide 29 = .ok (.invokevirtual 193, 3) := by decide +kernel
theorem dX8_divide_32 : decode cX8_divide 32 = .ok (.aload_n 0, 1) := by decide +kernel
theorem dX8_divide_33 : decode cX8_divide 33 = .ok (.getfield 13, 3) := by decide +kernel
theorem dX8_divide_36 : decode cX8_divide 36 = .ok (.iconst 5, 1) := by decide +kernel
theorem dX8_divide_37 : decode cX8_divide 37 = .ok (.iconst 0, 1) := by decide +kernel
theorem dX8_divide_38 : decode cX8_divide 38 = .ok (.iastore, 1) := by decide +kernel
theorem dX8_divide_39 : decode cX8_divide 39 = .ok (.iconst 0, 1) := by decide +kernel
theorem dX8_divide_40 : decode cX8_divide 40 = .ok (.istore_n 2, 1) := by decide +kernel
theorem dX8_divide_41 : decode cX8_divide 41 = .ok (.iload_n 2, 1) := by decide +kernel
theorem dX8_divide_42 : decode cX8_divide 42 = .ok (.iload_n 1, 1) := by decide +kernel
theorem dX8_divide_43 : decode cX8_divide 43 = .ok (.if_icmp .ge 26, 3) := by decide +kernel
theorem dX8_divide_46 : decode cX8_divide 46 = .ok (.aload_n 0, 1) := by decide +kernel
theorem dX8_divide_47 : decode cX8_divide 47 = .ok (.getfield 13, 3) := by decide +kernel
theorem dX8_divide_50 : decode cX8_divide 50 = .ok (.iconst 5, 1) := by decide +kernel
theorem dX8_divide_51 : decode cX8_divide 51 = .ok (.dup2, 1) := by decide +kernel
theorem dX8_divide_52 : decode cX8_divide 52 = .ok (.iaload, 1) := by decide +kernel
theorem dX8_divide_53 : decode cX8_divide 53 = .ok (.iconst 1, 1) := by decide +kernel
theorem dX8_divide_54 : decode cX8_divide 54 = .ok (.aload_n 0, 1) := by decide +kernel
theorem dX8_divide_55 : decode cX8_divide 55 = .ok (.getfield 32, 3) := by decide +kernel
theorem dX8_divide_58 : decode cX8_divide 58 = .ok (.iload_n 2, 1) := by decide +kernel
theorem dX8_divide_59 : decode cX8_divide 59 = .ok (.iaload, 1) := by decide +kernel
theorem dX8_divide_60 : decode cX8_divide 60 = .ok (.ishl, 1) := by decide +kernel
theorem dX8_divide_61 : decode cX8_divide 61 = .ok (.ior, 1) := by decide +kernel
theorem dX8_divide_62 : decode cX8_divide 62 = .ok (.iastore, 1) := by decide +kernel
theorem dX8_divide_63 : decode cX8_divide 63 = .ok (.iinc 2 1, 3) := by decide +kernel
theorem dX8_divide_66 : decode cX8_divide 66 = .ok (.goto (-25), 3) := by decide +kernel
theorem dX8_divide_69 : decode cX8_divide 69 = .ok (.aload_n 0, 1) := by decide +kernel
theorem dX8_divide_70 : decode cX8_divide 70 = .ok (.getfield 13, 3) := by decide +kernel
theorem dX8_divide_73 : decode cX8_divide 73 = .ok (.iconst 0, 1) := by decide +kernel
theorem dX8_divide_74 : decode cX8_divide 74 = .ok (.invokestatic 163, 3) := by decide +kernel
theorem dX8_divide_77 : decode cX8_divide 77 = .ok (.pop, 1) := by decide +kernel
theorem dX8_divide_78 : decode cX8_divide 78 = .ok (.iload_n 1, 1) := by decide +kernel
theorem dX8_divide_79 : decode cX8_divide 79 = .ok (.ireturn, 1) := by decide +kernel
theorem dX8_set_0 : decode cX8_set 0 = .ok (.aload_n 0, 1) := by decide +kernel
theorem dX8_set_1 : decode cX8_set 1 = .ok (.iload_n 1, 1) := by decide +kernel
theorem dX8_set_2 : decode cX8_set 2 = .ok (.i2l, 1) := by decide +kernel
theorem dX8_set_3 : decode cX8_set 3 = .ok (.lconst 0, 1) := by decide +kernel
theorem dX8_set_4 : decode cX8_set 4 = .ok (.lconst 1, 1) := by decide +kernel
theorem dX8_set_5 : decode cX8_set 5 = .ok (.invokestatic 46, 3) := by decide +kernel
theorem dX8_set_8 : decode cX8_set 8 = .ok (.ifCond .eq 7, 3) := by decide +kernel
theorem dX8_set_11 : decode cX8_set 11 = .ok (.iconst 0, 1) := by decide +kernel
theorem dX8_set_12 : decode cX8_set 12 = .ok (.goto 4, 3) := by decide +kernel
theorem dX8_set_15 : decode cX8_set 15 = .ok (.iconst 1, 1) := by decide +kernel
theorem dX8_set_16 : decode cX8_set 16 = .ok (.invokevirtual 115, 3) := by decide +kernel
theorem dX8_set_19 : decode cX8_set 19 = .ok (.ifCond .eq 5, 3) := by decide +kernel
theorem dX8_set_22 : decode cX8_set 22 = .ok (.iconst 0, 1) := by decide +kernel
theorem dX8_set_23 : decode cX8_set 23 = .ok (.ireturn, 1) := by decide +kernel
theorem dX8_set_24 : decode cX8_set 24 = .ok (.aload_n 0, 1) := by decide +kernel
theorem dX8_set_25 : decode cX8_set 25 = .ok (.invokevirtual 193, 3) := by decide +kernel
theorem dX8_set_28 : decode cX8_set 28 = .ok (.aload_n 0, 1) := by decide +kernel
theorem dX8_set_29 : decode cX8_set 29 = .ok (.getfield 13, 3) := by decide +kernel
theorem dX8_set_32 : decode cX8_set 32 = .ok (.iconst 4, 1) := by decide +kernel
theorem dX8_set_33 : decode cX8_set 33 = .ok (.iaload, 1) := by decide +kernel
theorem dX8_set_34 : decode cX8_set 34 = .ok (.istore_n 2, 1) := by decide +kernel
theorem dX8_set_35 : decode cX8_set 35 = .ok (.aload_n 0, 1) := by decide +kernel
theorem dX8_set_36 : decode cX8_set 36 = .ok (.getfield 13, 3) := by decide +kernel
theorem dX8_set_39 : decode cX8_set 39 = .ok (.iconst 4, 1) := by decide +kernel
theorem dX8_set_40 : decode cX8_set 40 = .ok (.iload_n 1, 1) := by decide +kernel
theorem dX8_set_41 : decode cX8_set 41 = .ok (.iastore, 1) := by decide +kernel
theorem dX8_set_42 : decode cX8_set 42 = .ok (.iload_n 2, 1) := by decide +kernel
theorem dX8_set_43 : decode cX8_set 43 = .ok (.ireturn, 1) := by decide +kernel
theorem dX8_undo_0 : decode cX8_undo 0 = .ok (.aload_n 0, 1) := by decide +kernel
theorem dX8_undo_1 : decode cX8_undo 1 = .ok (.aload_n 0, 1) := by decide +kernel
theorem dX8_undo_2 : decode cX8_undo 2 = .ok (.getfield 179, 3) := by decide +kernel
theorem dX8_undo_5 : decode cX8_undo 5 = .ok (.ifCond .ne 7, 3) := by decide +kernel
theorem dX8_undo_8 : decode cX8_undo 8 = .ok (.iconst 1, 1) := by decide +kernel
theorem dX8_undo_9 : decode cX8_undo 9 = .ok (.goto 4, 3) := by decide +kernel
theorem dX8_undo_12 : decode cX8_undo 12 = .ok (.iconst 0, 1) := by decide +kernel
theorem dX8_undo_13 : decode cX8_undo 13 = .ok (.invokevirtual 115, 3) := by decide +kernel
theorem dX8_undo_16 : decode cX8_undo 16 = .ok (.ifCond .eq 5, 3) := by decide +kernel
theorem dX8_undo_19 : decode cX8_undo 19 = .ok (.iconst 0, 1) := by decide +kernel
theorem dX8_undo_20 : decode cX8_undo 20 = .ok (.ireturn, 1) := by decide +kernel
theorem dX8_undo_21 : decode cX8_undo 21 = .ok (.aload_n 0, 1) := by decide +kernel
theorem dX8_undo_22 : decode cX8_undo 22 = .ok (.dup, 1) := by decide +kernel
theorem dX8_undo_23 : decode cX8_undo 23 = .ok (.getfield 179, 3) := by decide +kernel
theorem dX8_undo_26 : decode cX8_undo 26 = .ok (.iconst 1, 1) := by decide +kernel
theorem dX8_undo_27 : decode cX8_undo 27 = .ok (.isub, 1) := by decide +kernel
theorem dX8_undo_28 : decode cX8_undo 28 = .ok (.putfield 179, 3) := by decide +kernel
theorem dX8_undo_31 : decode cX8_undo 31 = .ok (.aload_n 0, 1) := by decide +kernel
theorem dX8_undo_32 : decode cX8_undo 32 = .ok (.getfield 19, 3) := by decide +kernel
theorem dX8_undo_35 : decode cX8_undo 35 = .ok (.bipush 54, 2) := by decide +kernel
theorem dX8_undo_37 : decode cX8_undo 37 = .ok (.aload_n 0, 1) := by decide +kernel
theorem dX8_undo_38 : decode cX8_undo 38 = .ok (.getfield 179, 3) := by decide +kernel
theorem dX8_undo_41 : decode cX8_undo 41 = .ok (.imul, 1) := by decide +kernel
theorem dX8_undo_42 : decode cX8_undo 42 = .ok (.aload_n 0, 1) := by decide +kernel
theorem dX8_undo_43 : decode cX8_undo 43 = .ok (.getfield 13, 3) := by decide +kernel
theorem dX8_undo_46 : decode cX8_undo 46 = .ok (.iconst 0, 1) := by decide +kernel
theorem dX8_undo_47 : decode cX8_undo 47 = .ok (.invokestatic 175, 3) := by decide +kernel
theorem dX8_undo_50 : decode cX8_undo 50 = .ok (.aload_n 0, 1) := by decide +kernel
theorem dX8_undo_51 : decode cX8_undo 51 = .ok (.getfield 179, 3) := by decide +kernel
theorem dX8_undo_54 : decode cX8_undo 54 = .ok (.ireturn, 1) := by decide +kernel
theorem dX8_fewest_0 : decode cX8_fewest 0 = .ok (.aload_n 0, 1) := by decide +kernel
theorem dX8_fewest_1 : decode cX8_fewest 1 = .ok (.iload_n 1, 1) := by decide +kernel
theorem dX8_fewest_2 : decode cX8_fewest 2 = .ok (.i2l, 1) := by decide +kernel
theorem dX8_fewest_3 : decode cX8_fewest 3 = .ok (.lconst 0, 1) := by decide +kernel
theorem dX8_fewest_4 : decode cX8_fewest 4 = .ok (.lconst 1, 1) := by decide +kernel
theorem dX8_fewest_5 : decode cX8_fewest 5 = .ok (.invokestatic 46, 3) := by decide +kernel
theorem dX8_fewest_8 : decode cX8_fewest 8 = .ok (.ifCond .eq 7, 3) := by decide +kernel
theorem dX8_fewest_11 : decode cX8_fewest 11 = .ok (.iconst 0, 1) := by decide +kernel
theorem dX8_fewest_12 : decode cX8_fewest 12 = .ok (.goto 4, 3) := by decide +kernel
theorem dX8_fewest_15 : decode cX8_fewest 15 = .ok (.iconst 1, 1) := by decide +kernel
theorem dX8_fewest_16 : decode cX8_fewest 16 = .ok (.invokevirtual 115, 3) := by decide +kernel
theorem dX8_fewest_19 : decode cX8_fewest 19 = .ok (.ifCond .eq 5, 3) := by decide +kernel
theorem dX8_fewest_22 : decode cX8_fewest 22 = .ok (.iconst 0, 1) := by decide +kernel
theorem dX8_fewest_23 : decode cX8_fewest 23 = .ok (.ireturn, 1) := by decide +kernel
theorem dX8_fewest_24 : decode cX8_fewest 24 = .ok (.aload_n 0, 1) := by decide +kernel
theorem dX8_fewest_25 : decode cX8_fewest 25 = .ok (.aload_n 0, 1) := by decide +kernel
theorem dX8_fewest_26 : decode cX8_fewest 26 = .ok (.getfield 13, 3) := by decide +kernel
theorem dX8_fewest_29 : decode cX8_fewest 29 = .ok (.invokevirtual 199, 3) := by decide +kernel
theorem dX8_fewest_32 : decode cX8_fewest 32 = .ok (.ireturn, 1) := by decide +kernel
theorem dX8_divided_0 : decode cX8_divided 0 = .ok (.aload_n 0, 1) := by decide +kernel
theorem dX8_divided_1 : decode cX8_divided 1 = .ok (.iload_n 1, 1) := by decide +kernel
theorem dX8_divided_2 : decode cX8_divided 2 = .ok (.ifCond .lt 7, 3) := by decide +kernel
theorem dX8_divided_5 : decode cX8_divided 5 = .ok (.iconst 0, 1) := by decide +kernel
theorem dX8_divided_6 : decode cX8_divided 6 = .ok (.goto 4, 3) := by decide +kernel
theorem dX8_divided_9 : decode cX8_divided 9 = .ok (.iconst 1, 1) := by decide +kernel
theorem dX8_divided_10 : decode cX8_divided 10 = .ok (.invokevirtual 115, 3) := by decide +kernel
theorem dX8_divided_13 : decode cX8_divided 13 = .ok (.ifCond .eq 5, 3) := by decide +kernel
theorem dX8_divided_16 : decode cX8_divided 16 = .ok (.iconst 0, 1) := by decide +kernel
theorem dX8_divided_17 : decode cX8_divided 17 = .ok (.ireturn, 1) := by decide +kernel
theorem dX8_divided_18 : decode cX8_divided 18 = .ok (.aload_n 0, 1) := by decide +kernel
theorem dX8_divided_19 : decode cX8_divided 19 = .ok (.aload_n 0, 1) := by decide +kernel
theorem dX8_divided_20 : decode cX8_divided 20 = .ok (.getfield 13, 3) := by decide +kernel
theorem dX8_divided_23 : decode cX8_divided 23 = .ok (.invokevirtual 199, 3) := by decide +kernel
theorem dX8_divided_26 : decode cX8_divided 26 = .ok (.istore_n 2, 1) := by decide +kernel
theorem dX8_divided_27 : decode cX8_divided 27 = .ok (.iload_n 1, 1) := by decide +kernel
theorem dX8_divided_28 : decode cX8_divided 28 = .ok (.iload_n 2, 1) := by decide +kernel
theorem dX8_divided_29 : decode cX8_divided 29 = .ok (.if_icmp .ge 12, 3) := by decide +kernel
theorem dX8_divided_32 : decode cX8_divided 32 = .ok (.aload_n 0, 1) := by decide +kernel
theorem dX8_divided_33 : decode cX8_divided 33 = .ok (.getfield 32, 3) := by decide +kernel
theorem dX8_divided_36 : decode cX8_divided 36 = .ok (.iload_n 1, 1) := by decide +kernel
theorem dX8_divided_37 : decode cX8_divided 37 = .ok (.iaload, 1) := by decide +kernel
theorem dX8_divided_38 : decode cX8_divided 38 = .ok (.goto 4, 3) := by decide +kernel
theorem dX8_divided_41 : decode cX8_divided 41 = .ok (.iconst (-1), 1) := by decide +kernel
theorem dX8_divided_42 : decode cX8_divided 42 = .ok (.ireturn, 1) := by decide +kernel
theorem dX8_leastGap_0 : decode cX8_leastGap 0 = .ok (.aload_n 0, 1) := by decide +kernel
theorem dX8_leastGap_1 : decode cX8_leastGap 1 = .ok (.iload_n 1, 1) := by decide +kernel
theorem dX8_leastGap_2 : decode cX8_leastGap 2 = .ok (.i2l, 1) := by decide +kernel
theorem dX8_leastGap_3 : decode cX8_leastGap 3 = .ok (.lconst 0, 1) := by decide +kernel
theorem dX8_leastGap_4 : decode cX8_leastGap 4 = .ok (.ldc2_w 202, 3) := by decide +kernel
theorem dX8_leastGap_7 : decode cX8_leastGap 7 = .ok (.invokestatic 46, 3) := by decide +kernel
theorem dX8_leastGap_10 : decode cX8_leastGap 10 = .ok (.ifCond .eq 7, 3) := by decide +kernel
theorem dX8_leastGap_13 : decode cX8_leastGap 13 = .ok (.iconst 0, 1) := by decide +kernel
theorem dX8_leastGap_14 : decode cX8_leastGap 14 = .ok (.goto 4, 3) := by decide +kernel
theorem dX8_leastGap_17 : decode cX8_leastGap 17 = .ok (.iconst 1, 1) := by decide +kernel
theorem dX8_leastGap_18 : decode cX8_leastGap 18 = .ok (.invokevirtual 115, 3) := by decide +kernel
theorem dX8_leastGap_21 : decode cX8_leastGap 21 = .ok (.ifCond .eq 5, 3) := by decide +kernel
theorem dX8_leastGap_24 : decode cX8_leastGap 24 = .ok (.iconst 0, 1) := by decide +kernel
theorem dX8_leastGap_25 : decode cX8_leastGap 25 = .ok (.ireturn, 1) := by decide +kernel
theorem dX8_leastGap_26 : decode cX8_leastGap 26 = .ok (.aload_n 0, 1) := by decide +kernel
theorem dX8_leastGap_27 : decode cX8_leastGap 27 = .ok (.aload_n 0, 1) := by decide +kernel
theorem dX8_leastGap_28 : decode cX8_leastGap 28 = .ok (.getfield 13, 3) := by decide +kernel
theorem dX8_leastGap_31 : decode cX8_leastGap 31 = .ok (.invokevirtual 89, 3) := by decide +kernel
theorem dX8_leastGap_34 : decode cX8_leastGap 34 = .ok (.aload_n 0, 1) := by decide +kernel
theorem dX8_leastGap_35 : decode cX8_leastGap 35 = .ok (.aload_n 0, 1) := by decide +kernel
theorem dX8_leastGap_36 : decode cX8_leastGap 36 = .ok (.getfield 13, 3) := by decide +kernel
theorem dX8_leastGap_39 : decode cX8_leastGap 39 = .ok (.iconst 0, 1) := by decide +kernel
theorem dX8_leastGap_40 : decode cX8_leastGap 40 = .ok (.iaload, 1) := by decide +kernel
theorem dX8_leastGap_41 : decode cX8_leastGap 41 = .ok (.iconst 0, 1) := by decide +kernel
theorem dX8_leastGap_42 : decode cX8_leastGap 42 = .ok (.invokevirtual 92, 3) := by decide +kernel
theorem dX8_leastGap_45 : decode cX8_leastGap 45 = .ok (.istore_n 2, 1) := by decide +kernel
theorem dX8_leastGap_46 : decode cX8_leastGap 46 = .ok (.iconst 1, 1) := by decide +kernel
theorem dX8_leastGap_47 : decode cX8_leastGap 47 = .ok (.istore_n 3, 1) := by decide +kernel
theorem dX8_leastGap_48 : decode cX8_leastGap 48 = .ok (.iload_n 3, 1) := by decide +kernel
theorem dX8_leastGap_49 : decode cX8_leastGap 49 = .ok (.iload_n 1, 1) := by decide +kernel
theorem dX8_leastGap_50 : decode cX8_leastGap 50 = .ok (.if_icmp .gt 41, 3) := by decide +kernel
theorem dX8_leastGap_53 : decode cX8_leastGap 53 = .ok (.aload_n 0, 1) := by decide +kernel
theorem dX8_leastGap_54 : decode cX8_leastGap 54 = .ok (.aload_n 0, 1) := by decide +kernel
theorem dX8_leastGap_55 : decode cX8_leastGap 55 = .ok (.getfield 13, 3) := by decide +kernel
theorem dX8_leastGap_58 : decode cX8_leastGap 58 = .ok (.iconst 0, 1) := by decide +kernel
theorem dX8_leastGap_59 : decode cX8_leastGap 59 = .ok (.iaload, 1) := by decide +kernel
theorem dX8_leastGap_60 : decode cX8_leastGap 60 = .ok (.iload_n 3, 1) := by decide +kernel
theorem dX8_leastGap_61 : decode cX8_leastGap 61 = .ok (.invokevirtual 92, 3) := by decide +kernel
theorem dX8_leastGap_64 : decode cX8_leastGap 64 = .ok (.istore 4, 2) := by decide +kernel
theorem dX8_leastGap_66 : decode cX8_leastGap 66 = .ok (.iload 4, 2) := by decide +kernel
theorem dX8_leastGap_68 : decode cX8_leastGap 68 = .ok (.iconst (-1), 1) := by decide +kernel
theorem dX8_leastGap_69 : decode cX8_leastGap 69 = .ok (.if_icmp .eq 14, 3) := by decide +kernel
theorem dX8_leastGap_72 : decode cX8_leastGap 72 = .ok (.iload 4, 2) := by decide +kernel
theorem dX8_leastGap_74 : decode cX8_leastGap 74 = .ok (.iload_n 2, 1) := by decide +kernel
theorem dX8_leastGap_75 : decode cX8_leastGap 75 = .ok (.if_icmp .ge 8, 3) := by decide +kernel
theorem dX8_leastGap_78 : decode cX8_leastGap 78 = .ok (.iload 4, 2) := by decide +kernel
theorem dX8_leastGap_80 : decode cX8_leastGap 80 = .ok (.goto 4, 3) := by decide +kernel
theorem dX8_leastGap_83 : decode cX8_leastGap 83 = .ok (.iload_n 2, 1) := by decide +kernel
theorem dX8_leastGap_84 : decode cX8_leastGap 84 = .ok (.istore_n 2, 1) := by decide +kernel
theorem dX8_leastGap_85 : decode cX8_leastGap 85 = .ok (.iinc 3 1, 3) := by decide +kernel
theorem dX8_leastGap_88 : decode cX8_leastGap 88 = .ok (.goto (-40), 3) := by decide +kernel
theorem dX8_leastGap_91 : decode cX8_leastGap 91 = .ok (.iload_n 2, 1) := by decide +kernel
theorem dX8_leastGap_92 : decode cX8_leastGap 92 = .ok (.ireturn, 1) := by decide +kernel
theorem dX8_bestBreak_0 : decode cX8_bestBreak 0 = .ok (.aload_n 0, 1) := by decide +kernel
theorem dX8_bestBreak_1 : decode cX8_bestBreak 1 = .ok (.iconst 0, 1) := by decide +kernel
theorem dX8_bestBreak_2 : decode cX8_bestBreak 2 = .ok (.putfield 39, 3) := by decide +kernel
theorem dX8_bestBreak_5 : decode cX8_bestBreak 5 = .ok (.iconst (-1), 1) := by decide +kernel
theorem dX8_bestBreak_6 : decode cX8_bestBreak 6 = .ok (.istore_n 1, 1) := by decide +kernel
theorem dX8_bestBreak_7 : decode cX8_bestBreak 7 = .ok (.iconst 0, 1) := by decide +kernel
theorem dX8_bestBreak_8 : decode cX8_bestBreak 8 = .ok (.istore_n 2, 1) := by decide +kernel
theorem dX8_bestBreak_9 : decode cX8_bestBreak 9 = .ok (.iconst 0, 1) := by decide +kernel
theorem dX8_bestBreak_10 : decode cX8_bestBreak 10 = .ok (.istore_n 3, 1) := by decide +kernel
theorem dX8_bestBreak_11 : decode cX8_bestBreak 11 = .ok (.iload_n 3, 1) := by decide +kernel
theorem dX8_bestBreak_12 : decode cX8_bestBreak 12 = .ok (.aload_n 0, 1) := by decide +kernel
theorem dX8_bestBreak_13 : decode cX8_bestBreak 13 = .ok (.getfield 13, 3) := by decide +kernel
theorem dX8_bestBreak_16 : decode cX8_bestBreak 16 = .ok (.iconst 0, 1) := by decide +kernel
theorem dX8_bestBreak_17 : decode cX8_bestBreak 17 = .ok (.iaload, 1) := by decide +kernel
theorem dX8_bestBreak_18 : decode cX8_bestBreak 18 = .ok (.if_icmp .ge 88, 3) := by decide +kernel
theorem dX8_bestBreak_21 : decode cX8_bestBreak 21 = .ok (.aload_n 0, 1) := by decide +kernel
theorem dX8_bestBreak_22 : decode cX8_bestBreak 22 = .ok (.getfield 13, 3) := by decide +kernel
theorem dX8_bestBreak_25 : decode cX8_bestBreak 25 = .ok (.iconst 0, 1) := by decide +kernel
theorem dX8_bestBreak_26 : decode cX8_bestBreak 26 = .ok (.aload_n 0, 1) := by decide +kernel
theorem dX8_bestBreak_27 : decode cX8_bestBreak 27 = .ok (.getfield 16, 3) := by decide +kernel
theorem dX8_bestBreak_30 : decode cX8_bestBreak 30 = .ok (.iconst 0, 1) := by decide +kernel
theorem dX8_bestBreak_31 : decode cX8_bestBreak 31 = .ok (.invokestatic 175, 3) := by decide +kernel
theorem dX8_bestBreak_34 : decode cX8_bestBreak 34 = .ok (.aload_n 0, 1) := by decide +kernel
theorem dX8_bestBreak_35 : decode cX8_bestBreak 35 = .ok (.getfield 16, 3) := by decide +kernel
theorem dX8_bestBreak_38 : decode cX8_bestBreak 38 = .ok (.iload_n 3, 1) := by decide +kernel
theorem dX8_bestBreak_39 : decode cX8_bestBreak 39 = .ok (.invokestatic 147, 3) := by decide +kernel
theorem dX8_bestBreak_42 : decode cX8_bestBreak 42 = .ok (.pop, 1) := by decide +kernel
theorem dX8_bestBreak_43 : decode cX8_bestBreak 43 = .ok (.aload_n 0, 1) := by decide +kernel
theorem dX8_bestBreak_44 : decode cX8_bestBreak 44 = .ok (.aload_n 0, 1) := by decide +kernel
theorem dX8_bestBreak_45 : decode cX8_bestBreak 45 = .ok (.getfield 16, 3) := by decide +kernel
theorem dX8_bestBreak_48 : decode cX8_bestBreak 48 = .ok (.invokevirtual 199, 3) := by decide +kernel
theorem dX8_bestBreak_51 : decode cX8_bestBreak 51 = .ok (.istore 4, 2) := by decide +kernel
theorem dX8_bestBreak_53 : decode cX8_bestBreak 53 = .ok (.iload 4, 2) := by decide +kernel
theorem dX8_bestBreak_55 : decode cX8_bestBreak 55 = .ok (.iconst (-1), 1) := by decide +kernel
theorem dX8_bestBreak_56 : decode cX8_bestBreak 56 = .ok (.if_icmp .eq 18, 3) := by decide +kernel
theorem dX8_bestBreak_59 : decode cX8_bestBreak 59 = .ok (.iload_n 1, 1) := by decide +kernel
theorem dX8_bestBreak_60 : decode cX8_bestBreak 60 = .ok (.iconst (-1), 1) := by decide +kernel
theorem dX8_bestBreak_61 : decode cX8_bestBreak 61 = .ok (.if_icmp .eq 9, 3) := by decide +kernel
theorem dX8_bestBreak_64 : decode cX8_bestBreak 64 = .ok (.iload 4, 2) := by decide +kernel
theorem dX8_bestBreak_66 : decode cX8_bestBreak 66 = .ok (.iload_n 2, 1) := by decide +kernel
theorem dX8_bestBreak_67 : decode cX8_bestBreak 67 = .ok (.if_icmp .ge 7, 3) := by decide +kernel
theorem dX8_bestBreak_70 : decode cX8_bestBreak 70 = .ok (.iconst 1, 1) := by decide +kernel
theorem dX8_bestBreak_71 : decode cX8_bestBreak 71 = .ok (.goto 4, 3) := by decide +kernel
theorem dX8_bestBreak_74 : decode cX8_bestBreak 74 = .ok (.iconst 0, 1) := by decide +kernel
theorem dX8_bestBreak_75 : decode cX8_bestBreak 75 = .ok (.istore 5, 2) := by decide +kernel
theorem dX8_bestBreak_77 : decode cX8_bestBreak 77 = .ok (.iload 5, 2) := by decide +kernel
theorem dX8_bestBreak_79 : decode cX8_bestBreak 79 = .ok (.ifCond .eq 7, 3) := by decide +kernel
theorem dX8_bestBreak_82 : decode cX8_bestBreak 82 = .ok (.iload_n 3, 1) := by decide +kernel
theorem dX8_bestBreak_83 : decode cX8_bestBreak 83 = .ok (.goto 4, 3) := by decide +kernel
theorem dX8_bestBreak_86 : decode cX8_bestBreak 86 = .ok (.iload_n 1, 1) := by decide +kernel
theorem dX8_bestBreak_87 : decode cX8_bestBreak 87 = .ok (.istore_n 1, 1) := by decide +kernel
theorem dX8_bestBreak_88 : decode cX8_bestBreak 88 = .ok (.iload 5, 2) := by decide +kernel
theorem dX8_bestBreak_90 : decode cX8_bestBreak 90 = .ok (.ifCond .eq 8, 3) := by decide +kernel
theorem dX8_bestBreak_93 : decode cX8_bestBreak 93 = .ok (.iload 4, 2) := by decide +kernel
theorem dX8_bestBreak_95 : decode cX8_bestBreak 95 = .ok (.goto 4, 3) := by decide +kernel
theorem dX8_bestBreak_98 : decode cX8_bestBreak 98 = .ok (.iload_n 2, 1) := by decide +kernel
theorem dX8_bestBreak_99 : decode cX8_bestBreak 99 = .ok (.istore_n 2, 1) := by decide +kernel
theorem dX8_bestBreak_100 : decode cX8_bestBreak 100 = .ok (.iinc 3 1, 3) := by decide +kernel
theorem dX8_bestBreak_103 : decode cX8_bestBreak 103 = .ok (.goto (-92), 3) := by decide +kernel
theorem dX8_bestBreak_106 : decode cX8_bestBreak 106 = .ok (.iload_n 1, 1) := by decide +kernel
theorem dX8_bestBreak_107 : decode cX8_bestBreak 107 = .ok (.ireturn, 1) := by decide +kernel
theorem dX8_gapWith_0 : decode cX8_gapWith 0 = .ok (.aload_n 0, 1) := by decide +kernel
theorem dX8_gapWith_1 : decode cX8_gapWith 1 = .ok (.getfield 13, 3) := by decide +kernel
theorem dX8_gapWith_4 : decode cX8_gapWith 4 = .ok (.iconst 0, 1) := by decide +kernel
theorem dX8_gapWith_5 : decode cX8_gapWith 5 = .ok (.aload_n 0, 1) := by decide +kernel
theorem dX8_gapWith_6 : decode cX8_gapWith 6 = .ok (.getfield 16, 3) := by decide +kernel
theorem dX8_gapWith_9 : decode cX8_gapWith 9 = .ok (.iconst 0, 1) := by decide +kernel
theorem dX8_gapWith_10 : decode cX8_gapWith 10 = .ok (.invokestatic 175, 3) := by decide +kernel
theorem dX8_gapWith_13 : decode cX8_gapWith 13 = .ok (.aload_n 0, 1) := by decide +kernel
theorem dX8_gapWith_14 : decode cX8_gapWith 14 = .ok (.getfield 16, 3) := by decide +kernel
theorem dX8_gapWith_17 : decode cX8_gapWith 17 = .ok (.iload_n 1, 1) := by decide +kernel
theorem dX8_gapWith_18 : decode cX8_gapWith 18 = .ok (.iload_n 2, 1) := by decide +kernel
theorem dX8_gapWith_19 : decode cX8_gapWith 19 = .ok (.invokestatic 107, 3) := by decide +kernel
theorem dX8_gapWith_22 : decode cX8_gapWith 22 = .ok (.ireturn, 1) := by decide +kernel
theorem dX8_bestRun_0 : decode cX8_bestRun 0 = .ok (.aload_n 0, 1) := by decide +kernel
theorem dX8_bestRun_1 : decode cX8_bestRun 1 = .ok (.iconst 0, 1) := by decide +kernel
theorem dX8_bestRun_2 : decode cX8_bestRun 2 = .ok (.putfield 39, 3) := by decide +kernel
theorem dX8_bestRun_5 : decode cX8_bestRun 5 = .ok (.iconst (-1), 1) := by decide +kernel
theorem dX8_bestRun_6 : decode cX8_bestRun 6 = .ok (.istore_n 1, 1) := by decide +kernel
theorem dX8_bestRun_7 : decode cX8_bestRun 7 = .ok (.iconst 0, 1) := by decide +kernel
theorem dX8_bestRun_8 : decode cX8_bestRun 8 = .ok (.istore_n 2, 1) := by decide +kernel
theorem dX8_bestRun_9 : decode cX8_bestRun 9 = .ok (.iconst 0, 1) := by decide +kernel
theorem dX8_bestRun_10 : decode cX8_bestRun 10 = .ok (.istore_n 3, 1) := by decide +kernel
theorem dX8_bestRun_11 : decode cX8_bestRun 11 = .ok (.iload_n 3, 1) := by decide +kernel
theorem dX8_bestRun_12 : decode cX8_bestRun 12 = .ok (.aload_n 0, 1) := by decide +kernel
theorem dX8_bestRun_13 : decode cX8_bestRun 13 = .ok (.getfield 13, 3) := by decide +kernel
theorem dX8_bestRun_16 : decode cX8_bestRun 16 = .ok (.invokestatic 56, 3) := by decide +kernel
theorem dX8_bestRun_19 : decode cX8_bestRun 19 = .ok (.if_icmp .ge 84, 3) := by decide +kernel
theorem dX8_bestRun_22 : decode cX8_bestRun 22 = .ok (.aload_n 0, 1) := by decide +kernel
theorem dX8_bestRun_23 : decode cX8_bestRun 23 = .ok (.getfield 13, 3) := by decide +kernel
theorem dX8_bestRun_26 : decode cX8_bestRun 26 = .ok (.iload_n 3, 1) := by decide +kernel
theorem dX8_bestRun_27 : decode cX8_bestRun 27 = .ok (.invokestatic 104, 3) := by decide +kernel
theorem dX8_bestRun_30 : decode cX8_bestRun 30 = .ok (.ifCond .ne 17, 3) := by decide +kernel
theorem dX8_bestRun_33 : decode cX8_bestRun 33 = .ok (.aload_n 0, 1) := by decide +kernel
theorem dX8_bestRun_34 : decode cX8_bestRun 34 = .ok (.iload_n 3, 1) := by decide +kernel
theorem dX8_bestRun_35 : decode cX8_bestRun 35 = .ok (.aload_n 0, 1) := by decide +kernel
theorem dX8_bestRun_36 : decode cX8_bestRun 36 = .ok (.getfield 13, 3) := by decide +kernel
theorem dX8_bestRun_39 : decode cX8_bestRun 39 = .ok (.iconst 2, 1) := by decide +kernel
theorem dX8_bestRun_40 : decode cX8_bestRun 40 = .ok (.iaload, 1) := by decide +kernel
theorem dX8_bestRun_41 : decode cX8_bestRun 41 = .ok (.invokevirtual 204, 3) := by decide +kernel
theorem dX8_bestRun_44 : decode cX8_bestRun 44 = .ok (.goto 4, 3) := by decide +kernel
theorem dX8_bestRun_47 : decode cX8_bestRun 47 = .ok (.iconst (-1), 1) := by decide +kernel
theorem dX8_bestRun_48 : decode cX8_bestRun 48 = .ok (.istore 4, 2) := by decide +kernel
theorem dX8_bestRun_50 : decode cX8_bestRun 50 = .ok (.iload 4, 2) := by decide +kernel
theorem dX8_bestRun_52 : decode cX8_bestRun 52 = .ok (.iconst (-1), 1) := by decide +kernel
theorem dX8_bestRun_53 : decode cX8_bestRun 53 = .ok (.if_icmp .eq 18, 3) := by decide +kernel
theorem dX8_bestRun_56 : decode cX8_bestRun 56 = .ok (.iload_n 1, 1) := by decide +kernel
theorem dX8_bestRun_57 : decode cX8_bestRun 57 = .ok (.iconst (-1), 1) := by decide +kernel
theorem dX8_bestRun_58 : decode cX8_bestRun 58 = .ok (.if_icmp .eq 9, 3) := by decide +kernel
theorem dX8_bestRun_61 : decode cX8_bestRun 61 = .ok (.iload 4, 2) := by decide +kernel
theorem dX8_bestRun_63 : decode cX8_bestRun 63 = .ok (.iload_n 2, 1) := by decide +kernel
theorem dX8_bestRun_64 : decode cX8_bestRun 64 = .ok (.if_icmp .ge 7, 3) := by decide +kernel
theorem dX8_bestRun_67 : decode cX8_bestRun 67 = .ok (.iconst 1, 1) := by decide +kernel
theorem dX8_bestRun_68 : decode cX8_bestRun 68 = .ok (.goto 4, 3) := by decide +kernel
theorem dX8_bestRun_71 : decode cX8_bestRun 71 = .ok (.iconst 0, 1) := by decide +kernel
theorem dX8_bestRun_72 : decode cX8_bestRun 72 = .ok (.istore 5, 2) := by decide +kernel
theorem dX8_bestRun_74 : decode cX8_bestRun 74 = .ok (.iload 5, 2) := by decide +kernel
theorem dX8_bestRun_76 : decode cX8_bestRun 76 = .ok (.ifCond .eq 7, 3) := by decide +kernel
theorem dX8_bestRun_79 : decode cX8_bestRun 79 = .ok (.iload_n 3, 1) := by decide +kernel
theorem dX8_bestRun_80 : decode cX8_bestRun 80 = .ok (.goto 4, 3) := by decide +kernel
theorem dX8_bestRun_83 : decode cX8_bestRun 83 = .ok (.iload_n 1, 1) := by decide +kernel
theorem dX8_bestRun_84 : decode cX8_bestRun 84 = .ok (.istore_n 1, 1) := by decide +kernel
theorem dX8_bestRun_85 : decode cX8_bestRun 85 = .ok (.iload 5, 2) := by decide +kernel
theorem dX8_bestRun_87 : decode cX8_bestRun 87 = .ok (.ifCond .eq 8, 3) := by decide +kernel
theorem dX8_bestRun_90 : decode cX8_bestRun 90 = .ok (.iload 4, 2) := by decide +kernel
theorem dX8_bestRun_92 : decode cX8_bestRun 92 = .ok (.goto 4, 3) := by decide +kernel
theorem dX8_bestRun_95 : decode cX8_bestRun 95 = .ok (.iload_n 2, 1) := by decide +kernel
theorem dX8_bestRun_96 : decode cX8_bestRun 96 = .ok (.istore_n 2, 1) := by decide +kernel
theorem dX8_bestRun_97 : decode cX8_bestRun 97 = .ok (.iinc 3 1, 3) := by decide +kernel
theorem dX8_bestRun_100 : decode cX8_bestRun 100 = .ok (.goto (-89), 3) := by decide +kernel
theorem dX8_bestRun_103 : decode cX8_bestRun 103 = .ok (.iload_n 1, 1) := by decide +kernel
theorem dX8_bestRun_104 : decode cX8_bestRun 104 = .ok (.ireturn, 1) := by decide +kernel
theorem dX8_ifGiven_0 : decode cX8_ifGiven 0 = .ok (.aload_n 0, 1) := by decide +kernel
theorem dX8_ifGiven_1 : decode cX8_ifGiven 1 = .ok (.aload_n 0, 1) := by decide +kernel
theorem dX8_ifGiven_2 : decode cX8_ifGiven 2 = .ok (.getfield 13, 3) := by decide +kernel
theorem dX8_ifGiven_5 : decode cX8_ifGiven 5 = .ok (.iload_n 1, 1) := by decide +kernel
theorem dX8_ifGiven_6 : decode cX8_ifGiven 6 = .ok (.invokestatic 157, 3) := by decide +kernel
theorem dX8_ifGiven_9 : decode cX8_ifGiven 9 = .ok (.ifCond .ne 7, 3) := by decide +kernel
theorem dX8_ifGiven_12 : decode cX8_ifGiven 12 = .ok (.iconst 1, 1) := by decide +kernel
theorem dX8_ifGiven_13 : decode cX8_ifGiven 13 = .ok (.goto 15, 3) := by decide +kernel
theorem dX8_ifGiven_16 : decode cX8_ifGiven 16 = .ok (.iload_n 2, 1) := by decide +kernel
theorem dX8_ifGiven_17 : decode cX8_ifGiven 17 = .ok (.invokestatic 196, 3) := by decide +kernel
theorem dX8_ifGiven_20 : decode cX8_ifGiven 20 = .ok (.ifCond .eq 7, 3) := by decide +kernel
theorem dX8_ifGiven_23 : decode cX8_ifGiven 23 = .ok (.iconst 0, 1) := by decide +kernel
theorem dX8_ifGiven_24 : decode cX8_ifGiven 24 = .ok (.goto 4, 3) := by decide +kernel
theorem dX8_ifGiven_27 : decode cX8_ifGiven 27 = .ok (.iconst 2, 1) := by decide +kernel
theorem dX8_ifGiven_28 : decode cX8_ifGiven 28 = .ok (.invokevirtual 115, 3) := by decide +kernel
theorem dX8_ifGiven_31 : decode cX8_ifGiven 31 = .ok (.ifCond .eq 5, 3) := by decide +kernel
theorem dX8_ifGiven_34 : decode cX8_ifGiven 34 = .ok (.iconst 0, 1) := by decide +kernel
theorem dX8_ifGiven_35 : decode cX8_ifGiven 35 = .ok (.ireturn, 1) := by decide +kernel
theorem dX8_ifGiven_36 : decode cX8_ifGiven 36 = .ok (.aload_n 0, 1) := by decide +kernel
theorem dX8_ifGiven_37 : decode cX8_ifGiven 37 = .ok (.iload_n 1, 1) := by decide +kernel
theorem dX8_ifGiven_38 : decode cX8_ifGiven 38 = .ok (.iload_n 2, 1) := by decide +kernel
theorem dX8_ifGiven_39 : decode cX8_ifGiven 39 = .ok (.invokevirtual 204, 3) := by decide +kernel
theorem dX8_ifGiven_42 : decode cX8_ifGiven 42 = .ok (.ireturn, 1) := by decide +kernel
theorem dX8_command_0 : decode cX8_command 0 = .ok (.iload_n 2, 1) := by decide +kernel
theorem dX8_command_1 : decode cX8_command 1 = .ok (.bipush 100, 2) := by decide +kernel
theorem dX8_command_3 : decode cX8_command 3 = .ok (.idiv, 1) := by decide +kernel
theorem dX8_command_4 : decode cX8_command 4 = .ok (.istore_n 3, 1) := by decide +kernel
theorem dX8_command_5 : decode cX8_command 5 = .ok (.iload_n 2, 1) := by decide +kernel
theorem dX8_command_6 : decode cX8_command 6 = .ok (.bipush 10, 2) := by decide +kernel
theorem dX8_command_8 : decode cX8_command 8 = .ok (.idiv, 1) := by decide +kernel
theorem dX8_command_9 : decode cX8_command 9 = .ok (.bipush 10, 2) := by decide +kernel
theorem dX8_command_11 : decode cX8_command 11 = .ok (.irem, 1) := by decide +kernel
theorem dX8_command_12 : decode cX8_command 12 = .ok (.istore 4, 2) := by decide +kernel
theorem dX8_command_14 : decode cX8_command 14 = .ok (.iload_n 2, 1) := by decide +kernel
theorem dX8_command_15 : decode cX8_command 15 = .ok (.bipush 10, 2) := by decide +kernel
theorem dX8_command_17 : decode cX8_command 17 = .ok (.irem, 1) := by decide +kernel
theorem dX8_command_18 : decode cX8_command 18 = .ok (.istore 5, 2) := by decide +kernel
theorem dX8_command_20 : decode cX8_command 20 = .ok (.iload_n 2, 1) := by decide +kernel
theorem dX8_command_21 : decode cX8_command 21 = .ok (.bipush 100, 2) := by decide +kernel
theorem dX8_command_23 : decode cX8_command 23 = .ok (.irem, 1) := by decide +kernel
theorem dX8_command_24 : decode cX8_command 24 = .ok (.istore 6, 2) := by decide +kernel
theorem dX8_command_26 : decode cX8_command 26 = .ok (.iload_n 1, 1) := by decide +kernel
theorem dX8_command_27 : decode cX8_command 27 = .ok (.tableswitch 373 1 9 #[49, 94, 140, 173, 195, 228, 251, 271, 323], 49) := by decide +kernel
theorem dX8_command_76 : decode cX8_command 76 = .ok (.iload 6, 2) := by decide +kernel
theorem dX8_command_78 : decode cX8_command 78 = .ok (.iconst 2, 1) := by decide +kernel
theorem dX8_command_79 : decode cX8_command 79 = .ok (.if_icmp .ge 40, 3) := by decide +kernel
theorem dX8_command_82 : decode cX8_command 82 = .ok (.aload_n 0, 1) := by decide +kernel
theorem dX8_command_83 : decode cX8_command 83 = .ok (.getfield 16, 3) := by decide +kernel
theorem dX8_command_86 : decode cX8_command 86 = .ok (.iload_n 3, 1) := by decide +kernel
theorem dX8_command_87 : decode cX8_command 87 = .ok (.invokestatic 150, 3) := by decide +kernel
theorem dX8_command_90 : decode cX8_command 90 = .ok (.ifCond .eq 29, 3) := by decide +kernel
theorem dX8_command_93 : decode cX8_command 93 = .ok (.aload_n 0, 1) := by decide +kernel
theorem dX8_command_94 : decode cX8_command 94 = .ok (.getfield 16, 3) := by decide +kernel
theorem dX8_command_97 : decode cX8_command 97 = .ok (.iload_n 3, 1) := by decide +kernel
theorem dX8_command_98 : decode cX8_command 98 = .ok (.iload 6, 2) := by decide +kernel
theorem dX8_command_100 : decode cX8_command 100 = .ok (.iconst 1, 1) := by decide +kernel
theorem dX8_command_101 : decode cX8_command 101 = .ok (.if_icmp .ne 7, 3) := by decide +kernel
theorem dX8_command_104 : decode cX8_command 104 = .ok (.iconst 1, 1) := by decide +kernel
theorem dX8_command_105 : decode cX8_command 105 = .ok (.goto 4, 3) := by decide +kernel
theorem dX8_command_108 : decode cX8_command 108 = .ok (.iconst 0, 1) := by decide +kernel
theorem dX8_command_109 : decode cX8_command 109 = .ok (.invokestatic 153, 3) := by decide +kernel
theorem dX8_command_112 : decode cX8_command 112 = .ok (.ifCond .le 7, 3) := by decide +kernel
theorem dX8_command_115 : decode cX8_command 115 = .ok (.iconst 1, 1) := by decide +kernel
theorem dX8_command_116 : decode cX8_command 116 = .ok (.goto 4, 3) := by decide +kernel
theorem dX8_command_119 : decode cX8_command 119 = .ok (.iconst 0, 1) := by decide +kernel
theorem dX8_command_120 : decode cX8_command 120 = .ok (.ireturn, 1) := by decide +kernel
theorem dX8_command_121 : decode cX8_command 121 = .ok (.iload 6, 2) := by decide +kernel
theorem dX8_command_123 : decode cX8_command 123 = .ok (.iconst 3, 1) := by decide +kernel
theorem dX8_command_124 : decode cX8_command 124 = .ok (.if_icmp .ge 41, 3) := by decide +kernel
theorem dX8_command_127 : decode cX8_command 127 = .ok (.aload_n 0, 1) := by decide +kernel
theorem dX8_command_128 : decode cX8_command 128 = .ok (.getfield 16, 3) := by decide +kernel
theorem dX8_command_131 : decode cX8_command 131 = .ok (.iload_n 3, 1) := by decide +kernel
theorem dX8_command_132 : decode cX8_command 132 = .ok (.invokestatic 157, 3) := by decide +kernel
theorem dX8_command_135 : decode cX8_command 135 = .ok (.ifCond .eq 30, 3) := by decide +kernel
theorem dX8_command_138 : decode cX8_command 138 = .ok (.aload_n 0, 1) := by decide +kernel
theorem dX8_command_139 : decode cX8_command 139 = .ok (.getfield 16, 3) := by decide +kernel
theorem dX8_command_142 : decode cX8_command 142 = .ok (.iload_n 3, 1) := by decide +kernel
theorem dX8_command_143 : decode cX8_command 143 = .ok (.iload 6, 2) := by decide +kernel
theorem dX8_command_145 : decode cX8_command 145 = .ok (.iconst 2, 1) := by decide +kernel
theorem dX8_command_146 : decode cX8_command 146 = .ok (.if_icmp .ne 7, 3) := by decide +kernel
theorem dX8_command_149 : decode cX8_command 149 = .ok (.iconst (-1), 1) := by decide +kernel
theorem dX8_command_150 : decode cX8_command 150 = .ok (.goto 5, 3) := by decide +kernel
theorem dX8_command_153 : decode cX8_command 153 = .ok (.iload 6, 2) := by decide +kernel
theorem dX8_command_155 : decode cX8_command 155 = .ok (.invokestatic 107, 3) := by decide +kernel
theorem dX8_command_158 : decode cX8_command 158 = .ok (.ifCond .lt 7, 3) := by decide +kernel
theorem dX8_command_161 : decode cX8_command 161 = .ok (.iconst 1, 1) := by decide +kernel
theorem dX8_command_162 : decode cX8_command 162 = .ok (.goto 4, 3) := by decide +kernel
theorem dX8_command_165 : decode cX8_command 165 = .ok (.iconst 0, 1) := by decide +kernel
theorem dX8_command_166 : decode cX8_command 166 = .ok (.ireturn, 1) := by decide +kernel
theorem dX8_command_167 : decode cX8_command 167 = .ok (.iload 6, 2) := by decide +kernel
theorem dX8_command_169 : decode cX8_command 169 = .ok (.ifCond .ne 29, 3) := by decide +kernel
theorem dX8_command_172 : decode cX8_command 172 = .ok (.aload_n 0, 1) := by decide +kernel
theorem dX8_command_173 : decode cX8_command 173 = .ok (.getfield 16, 3) := by decide +kernel
theorem dX8_command_176 : decode cX8_command 176 = .ok (.iload_n 3, 1) := by decide +kernel
theorem dX8_command_177 : decode cX8_command 177 = .ok (.invokestatic 157, 3) := by decide +kernel
theorem dX8_command_180 : decode cX8_command 180 = .ok (.ifCond .eq 18, 3) := by decide +kernel
theorem dX8_command_183 : decode cX8_command 183 = .ok (.aload_n 0, 1) := by decide +kernel
theorem dX8_command_184 : decode cX8_command 184 = .ok (.getfield 16, 3) := by decide +kernel
theorem dX8_command_187 : decode cX8_command 187 = .ok (.iload_n 3, 1) := by decide +kernel
theorem dX8_command_188 : decode cX8_command 188 = .ok (.invokestatic 160, 3) := by decide +kernel
theorem dX8_command_191 : decode cX8_command 191 = .ok (.ifCond .ne 7, 3) := by decide +kernel
theorem dX8_command_194 : decode cX8_command 194 = .ok (.iconst 1, 1) := by decide +kernel
theorem dX8_command_195 : decode cX8_command 195 = .ok (.goto 4, 3) := by decide +kernel
theorem dX8_command_198 : decode cX8_command 198 = .ok (.iconst 0, 1) := by decide +kernel
theorem dX8_command_199 : decode cX8_command 199 = .ok (.ireturn, 1) := by decide +kernel
theorem dX8_command_200 : decode cX8_command 200 = .ok (.iload_n 2, 1) := by decide +kernel
theorem dX8_command_201 : decode cX8_command 201 = .ok (.iconst 2, 1) := by decide +kernel
theorem dX8_command_202 : decode cX8_command 202 = .ok (.if_icmp .ge 18, 3) := by decide +kernel
theorem dX8_command_205 : decode cX8_command 205 = .ok (.aload_n 0, 1) := by decide +kernel
theorem dX8_command_206 : decode cX8_command 206 = .ok (.getfield 16, 3) := by decide +kernel
theorem dX8_command_209 : decode cX8_command 209 = .ok (.iload_n 2, 1) := by decide +kernel
theorem dX8_command_210 : decode cX8_command 210 = .ok (.invokestatic 163, 3) := by decide +kernel
theorem dX8_command_213 : decode cX8_command 213 = .ok (.ifCond .lt 7, 3) := by decide +kernel
theorem dX8_command_216 : decode cX8_command 216 = .ok (.iconst 1, 1) := by decide +kernel
theorem dX8_command_217 : decode cX8_command 217 = .ok (.goto 4, 3) := by decide +kernel
theorem dX8_command_220 : decode cX8_command 220 = .ok (.iconst 0, 1) := by decide +kernel
theorem dX8_command_221 : decode cX8_command 221 = .ok (.ireturn, 1) := by decide +kernel
theorem dX8_command_222 : decode cX8_command 222 = .ok (.iload 6, 2) := by decide +kernel
theorem dX8_command_224 : decode cX8_command 224 = .ok (.ifCond .ne 29, 3) := by decide +kernel
theorem dX8_command_227 : decode cX8_command 227 = .ok (.aload_n 0, 1) := by decide +kernel
theorem dX8_command_228 : decode cX8_command 228 = .ok (.getfield 16, 3) := by decide +kernel
theorem dX8_command_231 : decode cX8_command 231 = .ok (.iload_n 3, 1) := by decide +kernel
theorem dX8_command_232 : decode cX8_command 232 = .ok (.invokestatic 144, 3) := by decide +kernel
theorem dX8_command_235 : decode cX8_command 235 = .ok (.ifCond .eq 18, 3) := by decide +kernel
theorem dX8_command_238 : decode cX8_command 238 = .ok (.aload_n 0, 1) := by decide +kernel
theorem dX8_command_239 : decode cX8_command 239 = .ok (.getfield 16, 3) := by decide +kernel
theorem dX8_command_242 : decode cX8_command 242 = .ok (.iload_n 3, 1) := by decide +kernel
theorem dX8_command_243 : decode cX8_command 243 = .ok (.invokestatic 147, 3) := by decide +kernel
theorem dX8_command_246 : decode cX8_command 246 = .ok (.ifCond .lt 7, 3) := by decide +kernel
theorem dX8_command_249 : decode cX8_command 249 = .ok (.iconst 1, 1) := by decide +kernel
theorem dX8_command_250 : decode cX8_command 250 = .ok (.goto 4, 3) := by decide +kernel
theorem dX8_command_253 : decode cX8_command 253 = .ok (.iconst 0, 1) := by decide +kernel
theorem dX8_command_254 : decode cX8_command 254 = .ok (.ireturn, 1) := by decide +kernel
theorem dX8_command_255 : decode cX8_command 255 = .ok (.iload_n 2, 1) := by decide +kernel
theorem dX8_command_256 : decode cX8_command 256 = .ok (.bipush 100, 2) := by decide +kernel
theorem dX8_command_258 : decode cX8_command 258 = .ok (.if_icmp .ge 18, 3) := by decide +kernel
theorem dX8_command_261 : decode cX8_command 261 = .ok (.aload_n 0, 1) := by decide +kernel
theorem dX8_command_262 : decode cX8_command 262 = .ok (.getfield 16, 3) := by decide +kernel
theorem dX8_command_265 : decode cX8_command 265 = .ok (.invokestatic 95, 3) := by decide +kernel
theorem dX8_command_268 : decode cX8_command 268 = .ok (.iload_n 2, 1) := by decide +kernel
theorem dX8_command_269 : decode cX8_command 269 = .ok (.if_icmp .gt 7, 3) := by decide +kernel
theorem dX8_command_272 : decode cX8_command 272 = .ok (.iconst 1, 1) := by decide +kernel
theorem dX8_command_273 : decode cX8_command 273 = .ok (.goto 4, 3) := by decide +kernel
theorem dX8_command_276 : decode cX8_command 276 = .ok (.iconst 0, 1) := by decide +kernel
theorem dX8_command_277 : decode cX8_command 277 = .ok (.ireturn, 1) := by decide +kernel
theorem dX8_command_278 : decode cX8_command 278 = .ok (.iload_n 2, 1) := by decide +kernel
theorem dX8_command_279 : decode cX8_command 279 = .ok (.bipush 10, 2) := by decide +kernel
theorem dX8_command_281 : decode cX8_command 281 = .ok (.if_icmp .ge 15, 3) := by decide +kernel
theorem dX8_command_284 : decode cX8_command 284 = .ok (.aload_n 0, 1) := by decide +kernel
theorem dX8_command_285 : decode cX8_command 285 = .ok (.iload_n 2, 1) := by decide +kernel
theorem dX8_command_286 : decode cX8_command 286 = .ok (.invokevirtual 207, 3) := by decide +kernel
theorem dX8_command_289 : decode cX8_command 289 = .ok (.ifCond .eq 7, 3) := by decide +kernel
theorem dX8_command_292 : decode cX8_command 292 = .ok (.iconst 1, 1) := by decide +kernel
theorem dX8_command_293 : decode cX8_command 293 = .ok (.goto 4, 3) := by decide +kernel
theorem dX8_command_296 : decode cX8_command 296 = .ok (.iconst 0, 1) := by decide +kernel
theorem dX8_command_297 : decode cX8_command 297 = .ok (.ireturn, 1) := by decide +kernel
theorem dX8_command_298 : decode cX8_command 298 = .ok (.iload 4, 2) := by decide +kernel
theorem dX8_command_300 : decode cX8_command 300 = .ok (.ifCond .ne 48, 3) := by decide +kernel
theorem dX8_command_303 : decode cX8_command 303 = .ok (.iload 5, 2) := by decide +kernel
theorem dX8_command_305 : decode cX8_command 305 = .ok (.iconst 3, 1) := by decide +kernel
theorem dX8_command_306 : decode cX8_command 306 = .ok (.if_icmp .ge 42, 3) := by decide +kernel
theorem dX8_command_309 : decode cX8_command 309 = .ok (.aload_n 0, 1) := by decide +kernel
theorem dX8_command_310 : decode cX8_command 310 = .ok (.getfield 16, 3) := by decide +kernel
theorem dX8_command_313 : decode cX8_command 313 = .ok (.iload_n 3, 1) := by decide +kernel
theorem dX8_command_314 : decode cX8_command 314 = .ok (.invokestatic 144, 3) := by decide +kernel
theorem dX8_command_317 : decode cX8_command 317 = .ok (.ifCond .eq 31, 3) := by decide +kernel
theorem dX8_command_320 : decode cX8_command 320 = .ok (.aload_n 0, 1) := by decide +kernel
theorem dX8_command_321 : decode cX8_command 321 = .ok (.getfield 16, 3) := by decide +kernel
theorem dX8_command_324 : decode cX8_command 324 = .ok (.bipush 38, 2) := by decide +kernel
theorem dX8_command_326 : decode cX8_command 326 = .ok (.iload_n 3, 1) := by decide +kernel
theorem dX8_command_327 : decode cX8_command 327 = .ok (.iadd, 1) := by decide +kernel
theorem dX8_command_328 : decode cX8_command 328 = .ok (.iaload, 1) := by decide +kernel
theorem dX8_command_329 : decode cX8_command 329 = .ok (.iload 5, 2) := by decide +kernel
theorem dX8_command_331 : decode cX8_command 331 = .ok (.iconst 2, 1) := by decide +kernel
theorem dX8_command_332 : decode cX8_command 332 = .ok (.if_icmp .ne 7, 3) := by decide +kernel
theorem dX8_command_335 : decode cX8_command 335 = .ok (.iconst (-1), 1) := by decide +kernel
theorem dX8_command_336 : decode cX8_command 336 = .ok (.goto 5, 3) := by decide +kernel
theorem dX8_command_339 : decode cX8_command 339 = .ok (.iload 5, 2) := by decide +kernel
theorem dX8_command_341 : decode cX8_command 341 = .ok (.if_icmp .ne 7, 3) := by decide +kernel
theorem dX8_command_344 : decode cX8_command 344 = .ok (.iconst 1, 1) := by decide +kernel
theorem dX8_command_345 : decode cX8_command 345 = .ok (.goto 4, 3) := by decide +kernel
theorem dX8_command_348 : decode cX8_command 348 = .ok (.iconst 0, 1) := by decide +kernel
theorem dX8_command_349 : decode cX8_command 349 = .ok (.ireturn, 1) := by decide +kernel
theorem dX8_command_350 : decode cX8_command 350 = .ok (.iload_n 2, 1) := by decide +kernel
theorem dX8_command_351 : decode cX8_command 351 = .ok (.sipush 1000, 3) := by decide +kernel
theorem dX8_command_354 : decode cX8_command 354 = .ok (.idiv, 1) := by decide +kernel
theorem dX8_command_355 : decode cX8_command 355 = .ok (.iconst 2, 1) := by decide +kernel
theorem dX8_command_356 : decode cX8_command 356 = .ok (.if_icmp .ge 42, 3) := by decide +kernel
theorem dX8_command_359 : decode cX8_command 359 = .ok (.iload_n 2, 1) := by decide +kernel
theorem dX8_command_360 : decode cX8_command 360 = .ok (.bipush 100, 2) := by decide +kernel
theorem dX8_command_362 : decode cX8_command 362 = .ok (.idiv, 1) := by decide +kernel
theorem dX8_command_363 : decode cX8_command 363 = .ok (.bipush 10, 2) := by decide +kernel
theorem dX8_command_365 : decode cX8_command 365 = .ok (.irem, 1) := by decide +kernel
theorem dX8_command_366 : decode cX8_command 366 = .ok (.iconst 4, 1) := by decide +kernel
theorem dX8_command_367 : decode cX8_command 367 = .ok (.if_icmp .ge 31, 3) := by decide +kernel
theorem dX8_command_370 : decode cX8_command 370 = .ok (.aload_n 0, 1) := by decide +kernel
theorem dX8_command_371 : decode cX8_command 371 = .ok (.getfield 16, 3) := by decide +kernel
theorem dX8_command_374 : decode cX8_command 374 = .ok (.iload_n 2, 1) := by decide +kernel
theorem dX8_command_375 : decode cX8_command 375 = .ok (.sipush 1000, 3) := by decide +kernel
theorem dX8_command_378 : decode cX8_command 378 = .ok (.idiv, 1) := by decide +kernel
theorem dX8_command_379 : decode cX8_command 379 = .ok (.iload_n 2, 1) := by decide +kernel
theorem dX8_command_380 : decode cX8_command 380 = .ok (.bipush 100, 2) := by decide +kernel
theorem dX8_command_382 : decode cX8_command 382 = .ok (.idiv, 1) := by decide +kernel
theorem dX8_command_383 : decode cX8_command 383 = .ok (.bipush 10, 2) := by decide +kernel
theorem dX8_command_385 : decode cX8_command 385 = .ok (.irem, 1) := by decide +kernel
theorem dX8_command_386 : decode cX8_command 386 = .ok (.invokestatic 74, 3) := by decide +kernel
theorem dX8_command_389 : decode cX8_command 389 = .ok (.iload 6, 2) := by decide +kernel
theorem dX8_command_391 : decode cX8_command 391 = .ok (.if_icmp .lt 7, 3) := by decide +kernel
theorem dX8_command_394 : decode cX8_command 394 = .ok (.iconst 1, 1) := by decide +kernel
theorem dX8_command_395 : decode cX8_command 395 = .ok (.goto 4, 3) := by decide +kernel
theorem dX8_command_398 : decode cX8_command 398 = .ok (.iconst 0, 1) := by decide +kernel
theorem dX8_command_399 : decode cX8_command 399 = .ok (.ireturn, 1) := by decide +kernel
theorem dX8_command_400 : decode cX8_command 400 = .ok (.iconst 0, 1) := by decide +kernel
theorem dX8_command_401 : decode cX8_command 401 = .ok (.ireturn, 1) := by decide +kernel
theorem dX8_isDivided_0 : decode cX8_isDivided 0 = .ok (.aload_n 0, 1) := by decide +kernel
theorem dX8_isDivided_1 : decode cX8_isDivided 1 = .ok (.aload_n 0, 1) := by decide +kernel
theorem dX8_isDivided_2 : decode cX8_isDivided 2 = .ok (.getfield 16, 3) := by decide +kernel
theorem dX8_isDivided_5 : decode cX8_isDivided 5 = .ok (.invokevirtual 199, 3) := by decide +kernel
theorem dX8_isDivided_8 : decode cX8_isDivided 8 = .ok (.istore_n 2, 1) := by decide +kernel
theorem dX8_isDivided_9 : decode cX8_isDivided 9 = .ok (.iload_n 2, 1) := by decide +kernel
theorem dX8_isDivided_10 : decode cX8_isDivided 10 = .ok (.iconst (-1), 1) := by decide +kernel
theorem dX8_isDivided_11 : decode cX8_isDivided 11 = .ok (.if_icmp .eq 12, 3) := by decide +kernel
theorem dX8_isDivided_14 : decode cX8_isDivided 14 = .ok (.iload_n 2, 1) := by decide +kernel
theorem dX8_isDivided_15 : decode cX8_isDivided 15 = .ok (.iload_n 1, 1) := by decide +kernel
theorem dX8_isDivided_16 : decode cX8_isDivided 16 = .ok (.if_icmp .gt 7, 3) := by decide +kernel
theorem dX8_isDivided_19 : decode cX8_isDivided 19 = .ok (.iconst 1, 1) := by decide +kernel
theorem dX8_isDivided_20 : decode cX8_isDivided 20 = .ok (.goto 4, 3) := by decide +kernel
theorem dX8_isDivided_23 : decode cX8_isDivided 23 = .ok (.iconst 0, 1) := by decide +kernel
theorem dX8_isDivided_24 : decode cX8_isDivided 24 = .ok (.ireturn, 1) := by decide +kernel
theorem dX8_runScript_0 : decode cX8_runScript 0 = .ok (.lconst 1, 1) := by decide +kernel
theorem dX8_runScript_1 : decode cX8_runScript 1 = .ok (.lstore 4, 2) := by decide +kernel
theorem dX8_runScript_3 : decode cX8_runScript 3 = .ok (.iconst 0, 1) := by decide +kernel
theorem dX8_runScript_4 : decode cX8_runScript 4 = .ok (.istore 6, 2) := by decide +kernel
theorem dX8_runScript_6 : decode cX8_runScript 6 = .ok (.iload 6, 2) := by decide +kernel
theorem dX8_runScript_8 : decode cX8_runScript 8 = .ok (.iload_n 1, 1) := by decide +kernel
theorem dX8_runScript_9 : decode cX8_runScript 9 = .ok (.if_icmp .ge 23, 3) := by decide +kernel
theorem dX8_runScript_12 : decode cX8_runScript 12 = .ok (.iload 6, 2) := by decide +kernel
theorem dX8_runScript_14 : decode cX8_runScript 14 = .ok (.iconst 3, 1) := by decide +kernel
theorem dX8_runScript_15 : decode cX8_runScript 15 = .ok (.if_icmp .ge 17, 3) := by decide +kernel
theorem dX8_runScript_18 : decode cX8_runScript 18 = .ok (.lload 4, 2) := by decide +kernel
theorem dX8_runScript_20 : decode cX8_runScript 20 = .ok (.ldc2_w 210, 3) := by decide +kernel
theorem dX8_runScript_23 : decode cX8_runScript 23 = .ok (.lmul, 1) := by decide +kernel
theorem dX8_runScript_24 : decode cX8_runScript 24 = .ok (.lstore 4, 2) := by decide +kernel
theorem dX8_runScript_26 : decode cX8_runScript 26 = .ok (.iinc 6 1, 3) := by decide +kernel
theorem dX8_runScript_29 : decode cX8_runScript 29 = .ok (.goto (-23), 3) := by decide +kernel
theorem dX8_runScript_32 : decode cX8_runScript 32 = .ok (.aload_n 0, 1) := by decide +kernel
theorem dX8_runScript_33 : decode cX8_runScript 33 = .ok (.iload_n 1, 1) := by decide +kernel
theorem dX8_runScript_34 : decode cX8_runScript 34 = .ok (.i2l, 1) := by decide +kernel
theorem dX8_runScript_35 : decode cX8_runScript 35 = .ok (.lconst 1, 1) := by decide +kernel
theorem dX8_runScript_36 : decode cX8_runScript 36 = .ok (.ldc2_w 127, 3) := by decide +kernel
theorem dX8_runScript_39 : decode cX8_runScript 39 = .ok (.invokestatic 46, 3) := by decide +kernel
theorem dX8_runScript_42 : decode cX8_runScript 42 = .ok (.ifCond .eq 19, 3) := by decide +kernel
theorem dX8_runScript_45 : decode cX8_runScript 45 = .ok (.lload_n 2, 1) := by decide +kernel
theorem dX8_runScript_46 : decode cX8_runScript 46 = .ok (.lconst 0, 1) := by decide +kernel
theorem dX8_runScript_47 : decode cX8_runScript 47 = .ok (.lload 4, 2) := by decide +kernel
theorem dX8_runScript_49 : decode cX8_runScript 49 = .ok (.lconst 1, 1) := by decide +kernel
theorem dX8_runScript_50 : decode cX8_runScript 50 = .ok (.lsub, 1) := by decide +kernel
theorem dX8_runScript_51 : decode cX8_runScript 51 = .ok (.invokestatic 46, 3) := by decide +kernel
theorem dX8_runScript_54 : decode cX8_runScript 54 = .ok (.ifCond .eq 7, 3) := by decide +kernel
theorem dX8_runScript_57 : decode cX8_runScript 57 = .ok (.iconst 0, 1) := by decide +kernel
theorem dX8_runScript_58 : decode cX8_runScript 58 = .ok (.goto 4, 3) := by decide +kernel
theorem dX8_runScript_61 : decode cX8_runScript 61 = .ok (.iconst 1, 1) := by decide +kernel
theorem dX8_runScript_62 : decode cX8_runScript 62 = .ok (.invokevirtual 115, 3) := by decide +kernel
theorem dX8_runScript_65 : decode cX8_runScript 65 = .ok (.ifCond .eq 5, 3) := by decide +kernel
theorem dX8_runScript_68 : decode cX8_runScript 68 = .ok (.iconst 0, 1) := by decide +kernel
theorem dX8_runScript_69 : decode cX8_runScript 69 = .ok (.ireturn, 1) := by decide +kernel
theorem dX8_runScript_70 : decode cX8_runScript 70 = .ok (.aload_n 0, 1) := by decide +kernel
theorem dX8_runScript_71 : decode cX8_runScript 71 = .ok (.getfield 13, 3) := by decide +kernel
theorem dX8_runScript_74 : decode cX8_runScript 74 = .ok (.iconst 0, 1) := by decide +kernel
theorem dX8_runScript_75 : decode cX8_runScript 75 = .ok (.aload_n 0, 1) := by decide +kernel
theorem dX8_runScript_76 : decode cX8_runScript 76 = .ok (.getfield 16, 3) := by decide +kernel
theorem dX8_runScript_79 : decode cX8_runScript 79 = .ok (.iconst 0, 1) := by decide +kernel
theorem dX8_runScript_80 : decode cX8_runScript 80 = .ok (.invokestatic 175, 3) := by decide +kernel
theorem dX8_runScript_83 : decode cX8_runScript 83 = .ok (.iconst 0, 1) := by decide +kernel
theorem dX8_runScript_84 : decode cX8_runScript 84 = .ok (.istore 6, 2) := by decide +kernel
theorem dX8_runScript_86 : decode cX8_runScript 86 = .ok (.iload 6, 2) := by decide +kernel
theorem dX8_runScript_88 : decode cX8_runScript 88 = .ok (.iload_n 1, 1) := by decide +kernel
theorem dX8_runScript_89 : decode cX8_runScript 89 = .ok (.if_icmp .ge 50, 3) := by decide +kernel
theorem dX8_runScript_92 : decode cX8_runScript 92 = .ok (.lload 4, 2) := by decide +kernel
theorem dX8_runScript_94 : decode cX8_runScript 94 = .ok (.ldc2_w 210, 3) := by decide +kernel
theorem dX8_runScript_97 : decode cX8_runScript 97 = .ok (.ldiv, 1) := by decide +kernel
theorem dX8_runScript_98 : decode cX8_runScript 98 = .ok (.lstore 4, 2) := by decide +kernel
theorem dX8_runScript_100 : decode cX8_runScript 100 = .ok (.lload_n 2, 1) := by decide +kernel
theorem dX8_runScript_101 : decode cX8_runScript 101 = .ok (.lload 4, 2) := by decide +kernel
theorem dX8_runScript_103 : decode cX8_runScript 103 = .ok (.ldiv, 1) := by decide +kernel
theorem dX8_runScript_104 : decode cX8_runScript 104 = .ok (.ldc2_w 210, 3) := by decide +kernel
theorem dX8_runScript_107 : decode cX8_runScript 107 = .ok (.lrem, 1) := by decide +kernel
theorem dX8_runScript_108 : decode cX8_runScript 108 = .ok (.l2i, 1) := by decide +kernel
theorem dX8_runScript_109 : decode cX8_runScript 109 = .ok (.istore 7, 2) := by decide +kernel
theorem dX8_runScript_111 : decode cX8_runScript 111 = .ok (.aload_n 0, 1) := by decide +kernel
theorem dX8_runScript_112 : decode cX8_runScript 112 = .ok (.iload 7, 2) := by decide +kernel
theorem dX8_runScript_114 : decode cX8_runScript 114 = .ok (.sipush 10000, 3) := by decide +kernel
theorem dX8_runScript_117 : decode cX8_runScript 117 = .ok (.idiv, 1) := by decide +kernel
theorem dX8_runScript_118 : decode cX8_runScript 118 = .ok (.iload 7, 2) := by decide +kernel
theorem dX8_runScript_120 : decode cX8_runScript 120 = .ok (.sipush 10000, 3) := by decide +kernel
theorem dX8_runScript_123 : decode cX8_runScript 123 = .ok (.irem, 1) := by decide +kernel
theorem dX8_runScript_124 : decode cX8_runScript 124 = .ok (.invokevirtual 212, 3) := by decide +kernel
theorem dX8_runScript_127 : decode cX8_runScript 127 = .ok (.ifCond .ne 6, 3) := by decide +kernel
theorem dX8_runScript_130 : decode cX8_runScript 130 = .ok (.iload 6, 2) := by decide +kernel
theorem dX8_runScript_132 : decode cX8_runScript 132 = .ok (.ireturn, 1) := by decide +kernel
theorem dX8_runScript_133 : decode cX8_runScript 133 = .ok (.iinc 6 1, 3) := by decide +kernel
theorem dX8_runScript_136 : decode cX8_runScript 136 = .ok (.goto (-50), 3) := by decide +kernel
theorem dX8_runScript_139 : decode cX8_runScript 139 = .ok (.iconst (-1), 1) := by decide +kernel
theorem dX8_runScript_140 : decode cX8_runScript 140 = .ok (.ireturn, 1) := by decide +kernel
theorem dX8_turnRing_0 : decode cX8_turnRing 0 = .ok (.iload_n 1, 1) := by decide +kernel
theorem dX8_turnRing_1 : decode cX8_turnRing 1 = .ok (.iconst 4, 1) := by decide +kernel
theorem dX8_turnRing_2 : decode cX8_turnRing 2 = .ok (.if_icmp .ge 30, 3) := by decide +kernel
theorem dX8_turnRing_5 : decode cX8_turnRing 5 = .ok (.aload_n 0, 1) := by decide +kernel
theorem dX8_turnRing_6 : decode cX8_turnRing 6 = .ok (.iconst 0, 1) := by decide +kernel
theorem dX8_turnRing_7 : decode cX8_turnRing 7 = .ok (.iaload, 1) := by decide +kernel
theorem dX8_turnRing_8 : decode cX8_turnRing 8 = .ok (.bipush 16, 2) := by decide +kernel
theorem dX8_turnRing_10 : decode cX8_turnRing 10 = .ok (.if_icmp .ge 132, 3) := by decide +kernel
theorem dX8_turnRing_13 : decode cX8_turnRing 13 = .ok (.aload_n 0, 1) := by decide +kernel
theorem dX8_turnRing_14 : decode cX8_turnRing 14 = .ok (.iload_n 2, 1) := by decide +kernel
theorem dX8_turnRing_15 : decode cX8_turnRing 15 = .ok (.iconst 4, 1) := by decide +kernel
theorem dX8_turnRing_16 : decode cX8_turnRing 16 = .ok (.irem, 1) := by decide +kernel
theorem dX8_turnRing_17 : decode cX8_turnRing 17 = .ok (.iconst 1, 1) := by decide +kernel
theorem dX8_turnRing_18 : decode cX8_turnRing 18 = .ok (.iload_n 2, 1) := by decide +kernel
theorem dX8_turnRing_19 : decode cX8_turnRing 19 = .ok (.iconst 4, 1) := by decide +kernel
theorem dX8_turnRing_20 : decode cX8_turnRing 20 = .ok (.idiv, 1) := by decide +kernel
theorem dX8_turnRing_21 : decode cX8_turnRing 21 = .ok (.bipush 9, 2) := by decide +kernel
theorem dX8_turnRing_23 : decode cX8_turnRing 23 = .ok (.irem, 1) := by decide +kernel
theorem dX8_turnRing_24 : decode cX8_turnRing 24 = .ok (.iadd, 1) := by decide +kernel
theorem dX8_turnRing_25 : decode cX8_turnRing 25 = .ok (.invokestatic 133, 3) := by decide +kernel
theorem dX8_turnRing_28 : decode cX8_turnRing 28 = .ok (.pop, 1) := by decide +kernel
theorem dX8_turnRing_29 : decode cX8_turnRing 29 = .ok (.goto 113, 3) := by decide +kernel
theorem dX8_turnRing_32 : decode cX8_turnRing 32 = .ok (.iload_n 1, 1) := by decide +kernel
theorem dX8_turnRing_33 : decode cX8_turnRing 33 = .ok (.bipush 14, 2) := by decide +kernel
theorem dX8_turnRing_35 : decode cX8_turnRing 35 = .ok (.if_icmp .ne 35, 3) := by decide +kernel
theorem dX8_turnRing_38 : decode cX8_turnRing 38 = .ok (.iload_n 2, 1) := by decide +kernel
theorem dX8_turnRing_39 : decode cX8_turnRing 39 = .ok (.bipush 16, 2) := by decide +kernel
theorem dX8_turnRing_41 : decode cX8_turnRing 41 = .ok (.idiv, 1) := by decide +kernel
theorem dX8_turnRing_42 : decode cX8_turnRing 42 = .ok (.iconst 4, 1) := by decide +kernel
theorem dX8_turnRing_43 : decode cX8_turnRing 43 = .ok (.irem, 1) := by decide +kernel
theorem dX8_turnRing_44 : decode cX8_turnRing 44 = .ok (.ifCond .ne 26, 3) := by decide +kernel
theorem dX8_turnRing_47 : decode cX8_turnRing 47 = .ok (.aload_n 0, 1) := by decide +kernel
theorem dX8_turnRing_48 : decode cX8_turnRing 48 = .ok (.iload_n 2, 1) := by decide +kernel
theorem dX8_turnRing_49 : decode cX8_turnRing 49 = .ok (.bipush 16, 2) := by decide +kernel
theorem dX8_turnRing_51 : decode cX8_turnRing 51 = .ok (.irem, 1) := by decide +kernel
theorem dX8_turnRing_52 : decode cX8_turnRing 52 = .ok (.invokestatic 144, 3) := by decide +kernel
theorem dX8_turnRing_55 : decode cX8_turnRing 55 = .ok (.ifCond .eq 87, 3) := by decide +kernel
theorem dX8_turnRing_58 : decode cX8_turnRing 58 = .ok (.aload_n 0, 1) := by decide +kernel
theorem dX8_turnRing_59 : decode cX8_turnRing 59 = .ok (.iload_n 2, 1) := by decide +kernel
theorem dX8_turnRing_60 : decode cX8_turnRing 60 = .ok (.bipush 16, 2) := by decide +kernel
theorem dX8_turnRing_62 : decode cX8_turnRing 62 = .ok (.irem, 1) := by decide +kernel
theorem dX8_turnRing_63 : decode cX8_turnRing 63 = .ok (.invokestatic 147, 3) := by decide +kernel
theorem dX8_turnRing_66 : decode cX8_turnRing 66 = .ok (.pop, 1) := by decide +kernel
theorem dX8_turnRing_67 : decode cX8_turnRing 67 = .ok (.goto 75, 3) := by decide +kernel
theorem dX8_turnRing_70 : decode cX8_turnRing 70 = .ok (.iload_n 1, 1) := by decide +kernel
theorem dX8_turnRing_71 : decode cX8_turnRing 71 = .ok (.bipush 14, 2) := by decide +kernel
theorem dX8_turnRing_73 : decode cX8_turnRing 73 = .ok (.if_icmp .ne 47, 3) := by decide +kernel
theorem dX8_turnRing_76 : decode cX8_turnRing 76 = .ok (.aload_n 0, 1) := by decide +kernel
theorem dX8_turnRing_77 : decode cX8_turnRing 77 = .ok (.iload_n 2, 1) := by decide +kernel
theorem dX8_turnRing_78 : decode cX8_turnRing 78 = .ok (.bipush 16, 2) := by decide +kernel
theorem dX8_turnRing_80 : decode cX8_turnRing 80 = .ok (.irem, 1) := by decide +kernel
theorem dX8_turnRing_81 : decode cX8_turnRing 81 = .ok (.invokestatic 144, 3) := by decide +kernel
theorem dX8_turnRing_84 : decode cX8_turnRing 84 = .ok (.ifCond .eq 58, 3) := by decide +kernel
theorem dX8_turnRing_87 : decode cX8_turnRing 87 = .ok (.aload_n 0, 1) := by decide +kernel
theorem dX8_turnRing_88 : decode cX8_turnRing 88 = .ok (.iload_n 2, 1) := by decide +kernel
theorem dX8_turnRing_89 : decode cX8_turnRing 89 = .ok (.bipush 64, 2) := by decide +kernel
theorem dX8_turnRing_91 : decode cX8_turnRing 91 = .ok (.idiv, 1) := by decide +kernel
theorem dX8_turnRing_92 : decode cX8_turnRing 92 = .ok (.bipush 16, 2) := by decide +kernel
theorem dX8_turnRing_94 : decode cX8_turnRing 94 = .ok (.irem, 1) := by decide +kernel
theorem dX8_turnRing_95 : decode cX8_turnRing 95 = .ok (.invokestatic 144, 3) := by decide +kernel
theorem dX8_turnRing_98 : decode cX8_turnRing 98 = .ok (.ifCond .eq 44, 3) := by decide +kernel
theorem dX8_turnRing_101 : decode cX8_turnRing 101 = .ok (.aload_n 0, 1) := by decide +kernel
theorem dX8_turnRing_102 : decode cX8_turnRing 102 = .ok (.iload_n 2, 1) := by decide +kernel
theorem dX8_turnRing_103 : decode cX8_turnRing 103 = .ok (.bipush 16, 2) := by decide +kernel
theorem dX8_turnRing_105 : decode cX8_turnRing 105 = .ok (.irem, 1) := by decide +kernel
theorem dX8_turnRing_106 : decode cX8_turnRing 106 = .ok (.iload_n 2, 1) := by decide +kernel
theorem dX8_turnRing_107 : decode cX8_turnRing 107 = .ok (.bipush 64, 2) := by decide +kernel
theorem dX8_turnRing_109 : decode cX8_turnRing 109 = .ok (.idiv, 1) := by decide +kernel
theorem dX8_turnRing_110 : decode cX8_turnRing 110 = .ok (.bipush 16, 2) := by decide +kernel
theorem dX8_turnRing_112 : decode cX8_turnRing 112 = .ok (.irem, 1) := by decide +kernel
theorem dX8_turnRing_113 : decode cX8_turnRing 113 = .ok (.invokestatic 98, 3) := by decide +kernel
theorem dX8_turnRing_116 : decode cX8_turnRing 116 = .ok (.pop, 1) := by decide +kernel
theorem dX8_turnRing_117 : decode cX8_turnRing 117 = .ok (.goto 25, 3) := by decide +kernel
theorem dX8_turnRing_120 : decode cX8_turnRing 120 = .ok (.iload_n 2, 1) := by decide +kernel
theorem dX8_turnRing_121 : decode cX8_turnRing 121 = .ok (.iconst 2, 1) := by decide +kernel
theorem dX8_turnRing_122 : decode cX8_turnRing 122 = .ok (.idiv, 1) := by decide +kernel
theorem dX8_turnRing_123 : decode cX8_turnRing 123 = .ok (.iconst 2, 1) := by decide +kernel
theorem dX8_turnRing_124 : decode cX8_turnRing 124 = .ok (.irem, 1) := by decide +kernel
theorem dX8_turnRing_125 : decode cX8_turnRing 125 = .ok (.ifCond .ne 12, 3) := by decide +kernel
theorem dX8_turnRing_128 : decode cX8_turnRing 128 = .ok (.aload_n 0, 1) := by decide +kernel
theorem dX8_turnRing_129 : decode cX8_turnRing 129 = .ok (.iconst 4, 1) := by decide +kernel
theorem dX8_turnRing_130 : decode cX8_turnRing 130 = .ok (.iload_n 2, 1) := by decide +kernel
theorem dX8_turnRing_131 : decode cX8_turnRing 131 = .ok (.iconst 2, 1) := by decide +kernel
theorem dX8_turnRing_132 : decode cX8_turnRing 132 = .ok (.irem, 1) := by decide +kernel
theorem dX8_turnRing_133 : decode cX8_turnRing 133 = .ok (.iastore, 1) := by decide +kernel
theorem dX8_turnRing_134 : decode cX8_turnRing 134 = .ok (.goto 8, 3) := by decide +kernel
theorem dX8_turnRing_137 : decode cX8_turnRing 137 = .ok (.aload_n 0, 1) := by decide +kernel
theorem dX8_turnRing_138 : decode cX8_turnRing 138 = .ok (.invokestatic 166, 3) := by decide +kernel
theorem dX8_turnRing_141 : decode cX8_turnRing 141 = .ok (.pop, 1) := by decide +kernel
theorem dX8_turnRing_142 : decode cX8_turnRing 142 = .ok (.return_, 1) := by decide +kernel
theorem dX8_turnRuns_0 : decode cX8_turnRuns 0 = .ok (.iload_n 1, 1) := by decide +kernel
theorem dX8_turnRuns_1 : decode cX8_turnRuns 1 = .ok (.bipush 8, 2) := by decide +kernel
theorem dX8_turnRuns_3 : decode cX8_turnRuns 3 = .ok (.if_icmp .ge 44, 3) := by decide +kernel
theorem dX8_turnRuns_6 : decode cX8_turnRuns 6 = .ok (.aload_n 0, 1) := by decide +kernel
theorem dX8_turnRuns_7 : decode cX8_turnRuns 7 = .ok (.iconst 1, 1) := by decide +kernel
theorem dX8_turnRuns_8 : decode cX8_turnRuns 8 = .ok (.iload_n 2, 1) := by decide +kernel
theorem dX8_turnRuns_9 : decode cX8_turnRuns 9 = .ok (.bipush 15, 2) := by decide +kernel
theorem dX8_turnRuns_11 : decode cX8_turnRuns 11 = .ok (.irem, 1) := by decide +kernel
theorem dX8_turnRuns_12 : decode cX8_turnRuns 12 = .ok (.iadd, 1) := by decide +kernel
theorem dX8_turnRuns_13 : decode cX8_turnRuns 13 = .ok (.invokestatic 150, 3) := by decide +kernel
theorem dX8_turnRuns_16 : decode cX8_turnRuns 16 = .ok (.ifCond .eq 94, 3) := by decide +kernel
theorem dX8_turnRuns_19 : decode cX8_turnRuns 19 = .ok (.aload_n 0, 1) := by decide +kernel
theorem dX8_turnRuns_20 : decode cX8_turnRuns 20 = .ok (.iconst 1, 1) := by decide +kernel
theorem dX8_turnRuns_21 : decode cX8_turnRuns 21 = .ok (.iload_n 2, 1) := by decide +kernel
theorem dX8_turnRuns_22 : decode cX8_turnRuns 22 = .ok (.bipush 15, 2) := by decide +kernel
theorem dX8_turnRuns_24 : decode cX8_turnRuns 24 = .ok (.irem, 1) := by decide +kernel
theorem dX8_turnRuns_25 : decode cX8_turnRuns 25 = .ok (.iadd, 1) := by decide +kernel
theorem dX8_turnRuns_26 : decode cX8_turnRuns 26 = .ok (.iload_n 2, 1) := by decide +kernel
theorem dX8_turnRuns_27 : decode cX8_turnRuns 27 = .ok (.bipush 16, 2) := by decide +kernel
theorem dX8_turnRuns_29 : decode cX8_turnRuns 29 = .ok (.idiv, 1) := by decide +kernel
theorem dX8_turnRuns_30 : decode cX8_turnRuns 30 = .ok (.iconst 4, 1) := by decide +kernel
theorem dX8_turnRuns_31 : decode cX8_turnRuns 31 = .ok (.irem, 1) := by decide +kernel
theorem dX8_turnRuns_32 : decode cX8_turnRuns 32 = .ok (.ifCond .eq 7, 3) := by decide +kernel
theorem dX8_turnRuns_35 : decode cX8_turnRuns 35 = .ok (.iconst 1, 1) := by decide +kernel
theorem dX8_turnRuns_36 : decode cX8_turnRuns 36 = .ok (.goto 4, 3) := by decide +kernel
theorem dX8_turnRuns_39 : decode cX8_turnRuns 39 = .ok (.iconst 0, 1) := by decide +kernel
theorem dX8_turnRuns_40 : decode cX8_turnRuns 40 = .ok (.invokestatic 153, 3) := by decide +kernel
theorem dX8_turnRuns_43 : decode cX8_turnRuns 43 = .ok (.pop, 1) := by decide +kernel
theorem dX8_turnRuns_44 : decode cX8_turnRuns 44 = .ok (.goto 66, 3) := by decide +kernel
theorem dX8_turnRuns_47 : decode cX8_turnRuns 47 = .ok (.iload_n 1, 1) := by decide +kernel
theorem dX8_turnRuns_48 : decode cX8_turnRuns 48 = .ok (.bipush 13, 2) := by decide +kernel
theorem dX8_turnRuns_50 : decode cX8_turnRuns 50 = .ok (.if_icmp .ne 14, 3) := by decide +kernel
theorem dX8_turnRuns_53 : decode cX8_turnRuns 53 = .ok (.aload_n 0, 1) := by decide +kernel
theorem dX8_turnRuns_54 : decode cX8_turnRuns 54 = .ok (.iload_n 2, 1) := by decide +kernel
theorem dX8_turnRuns_55 : decode cX8_turnRuns 55 = .ok (.iconst 2, 1) := by decide +kernel
theorem dX8_turnRuns_56 : decode cX8_turnRuns 56 = .ok (.irem, 1) := by decide +kernel
theorem dX8_turnRuns_57 : decode cX8_turnRuns 57 = .ok (.invokestatic 163, 3) := by decide +kernel
theorem dX8_turnRuns_60 : decode cX8_turnRuns 60 = .ok (.pop, 1) := by decide +kernel
theorem dX8_turnRuns_61 : decode cX8_turnRuns 61 = .ok (.goto 49, 3) := by decide +kernel
theorem dX8_turnRuns_64 : decode cX8_turnRuns 64 = .ok (.aload_n 0, 1) := by decide +kernel
theorem dX8_turnRuns_65 : decode cX8_turnRuns 65 = .ok (.iload_n 2, 1) := by decide +kernel
theorem dX8_turnRuns_66 : decode cX8_turnRuns 66 = .ok (.bipush 16, 2) := by decide +kernel
theorem dX8_turnRuns_68 : decode cX8_turnRuns 68 = .ok (.irem, 1) := by decide +kernel
theorem dX8_turnRuns_69 : decode cX8_turnRuns 69 = .ok (.invokestatic 157, 3) := by decide +kernel
theorem dX8_turnRuns_72 : decode cX8_turnRuns 72 = .ok (.ifCond .eq 38, 3) := by decide +kernel
theorem dX8_turnRuns_75 : decode cX8_turnRuns 75 = .ok (.iload_n 1, 1) := by decide +kernel
theorem dX8_turnRuns_76 : decode cX8_turnRuns 76 = .ok (.bipush 10, 2) := by decide +kernel
theorem dX8_turnRuns_78 : decode cX8_turnRuns 78 = .ok (.if_icmp .ge 23, 3) := by decide +kernel
theorem dX8_turnRuns_81 : decode cX8_turnRuns 81 = .ok (.aload_n 0, 1) := by decide +kernel
theorem dX8_turnRuns_82 : decode cX8_turnRuns 82 = .ok (.iload_n 2, 1) := by decide +kernel
theorem dX8_turnRuns_83 : decode cX8_turnRuns 83 = .ok (.bipush 16, 2) := by decide +kernel
theorem dX8_turnRuns_85 : decode cX8_turnRuns 85 = .ok (.irem, 1) := by decide +kernel
theorem dX8_turnRuns_86 : decode cX8_turnRuns 86 = .ok (.iload_n 2, 1) := by decide +kernel
theorem dX8_turnRuns_87 : decode cX8_turnRuns 87 = .ok (.bipush 16, 2) := by decide +kernel
theorem dX8_turnRuns_89 : decode cX8_turnRuns 89 = .ok (.idiv, 1) := by decide +kernel
theorem dX8_turnRuns_90 : decode cX8_turnRuns 90 = .ok (.iconst 3, 1) := by decide +kernel
theorem dX8_turnRuns_91 : decode cX8_turnRuns 91 = .ok (.irem, 1) := by decide +kernel
theorem dX8_turnRuns_92 : decode cX8_turnRuns 92 = .ok (.iconst 1, 1) := by decide +kernel
theorem dX8_turnRuns_93 : decode cX8_turnRuns 93 = .ok (.isub, 1) := by decide +kernel
theorem dX8_turnRuns_94 : decode cX8_turnRuns 94 = .ok (.invokestatic 107, 3) := by decide +kernel
theorem dX8_turnRuns_97 : decode cX8_turnRuns 97 = .ok (.pop, 1) := by decide +kernel
theorem dX8_turnRuns_98 : decode cX8_turnRuns 98 = .ok (.goto 12, 3) := by decide +kernel
theorem dX8_turnRuns_101 : decode cX8_turnRuns 101 = .ok (.aload_n 0, 1) := by decide +kernel
theorem dX8_turnRuns_102 : decode cX8_turnRuns 102 = .ok (.iload_n 2, 1) := by decide +kernel
theorem dX8_turnRuns_103 : decode cX8_turnRuns 103 = .ok (.bipush 16, 2) := by decide +kernel
theorem dX8_turnRuns_105 : decode cX8_turnRuns 105 = .ok (.irem, 1) := by decide +kernel
theorem dX8_turnRuns_106 : decode cX8_turnRuns 106 = .ok (.invokestatic 160, 3) := by decide +kernel
theorem dX8_turnRuns_109 : decode cX8_turnRuns 109 = .ok (.pop, 1) := by decide +kernel
theorem dX8_turnRuns_110 : decode cX8_turnRuns 110 = .ok (.return_, 1) := by decide +kernel
theorem dX8_simulate_0 : decode cX8_simulate 0 = .ok (.aload_n 0, 1) := by decide +kernel
theorem dX8_simulate_1 : decode cX8_simulate 1 = .ok (.iload_n 3, 1) := by decide +kernel
theorem dX8_simulate_2 : decode cX8_simulate 2 = .ok (.i2l, 1) := by decide +kernel
theorem dX8_simulate_3 : decode cX8_simulate 3 = .ok (.lconst 1, 1) := by decide +kernel
theorem dX8_simulate_4 : decode cX8_simulate 4 = .ok (.ldc2_w 215, 3) := by decide +kernel
theorem dX8_simulate_7 : decode cX8_simulate 7 = .ok (.invokestatic 46, 3) := by decide +kernel
theorem dX8_simulate_10 : decode cX8_simulate 10 = .ok (.ifCond .eq 7, 3) := by decide +kernel
theorem dX8_simulate_13 : decode cX8_simulate 13 = .ok (.iconst 0, 1) := by decide +kernel
theorem dX8_simulate_14 : decode cX8_simulate 14 = .ok (.goto 4, 3) := by decide +kernel
theorem dX8_simulate_17 : decode cX8_simulate 17 = .ok (.iconst 1, 1) := by decide +kernel
theorem dX8_simulate_18 : decode cX8_simulate 18 = .ok (.invokevirtual 115, 3) := by decide +kernel
theorem dX8_simulate_21 : decode cX8_simulate 21 = .ok (.ifCond .eq 5, 3) := by decide +kernel
theorem dX8_simulate_24 : decode cX8_simulate 24 = .ok (.iconst 0, 1) := by decide +kernel
theorem dX8_simulate_25 : decode cX8_simulate 25 = .ok (.ireturn, 1) := by decide +kernel
theorem dX8_simulate_26 : decode cX8_simulate 26 = .ok (.aload_n 0, 1) := by decide +kernel
theorem dX8_simulate_27 : decode cX8_simulate 27 = .ok (.getfield 13, 3) := by decide +kernel
theorem dX8_simulate_30 : decode cX8_simulate 30 = .ok (.iconst 0, 1) := by decide +kernel
theorem dX8_simulate_31 : decode cX8_simulate 31 = .ok (.aload_n 0, 1) := by decide +kernel
theorem dX8_simulate_32 : decode cX8_simulate 32 = .ok (.getfield 16, 3) := by decide +kernel
theorem dX8_simulate_35 : decode cX8_simulate 35 = .ok (.iconst 0, 1) := by decide +kernel
theorem dX8_simulate_36 : decode cX8_simulate 36 = .ok (.invokestatic 175, 3) := by decide +kernel
theorem dX8_simulate_39 : decode cX8_simulate 39 = .ok (.lload_n 1, 1) := by decide +kernel
theorem dX8_simulate_40 : decode cX8_simulate 40 = .ok (.lstore 4, 2) := by decide +kernel
theorem dX8_simulate_42 : decode cX8_simulate 42 = .ok (.iconst 0, 1) := by decide +kernel
theorem dX8_simulate_43 : decode cX8_simulate 43 = .ok (.istore 6, 2) := by decide +kernel
theorem dX8_simulate_45 : decode cX8_simulate 45 = .ok (.iload 6, 2) := by decide +kernel
theorem dX8_simulate_47 : decode cX8_simulate 47 = .ok (.iload_n 3, 1) := by decide +kernel
theorem dX8_simulate_48 : decode cX8_simulate 48 = .ok (.if_icmp .ge 85, 3) := by decide +kernel
theorem dX8_simulate_51 : decode cX8_simulate 51 = .ok (.lload 4, 2) := by decide +kernel
theorem dX8_simulate_53 : decode cX8_simulate 53 = .ok (.ldc2_w 217, 3) := by decide +kernel
theorem dX8_simulate_56 : decode cX8_simulate 56 = .ok (.lmul, 1) := by decide +kernel
theorem dX8_simulate_57 : decode cX8_simulate 57 = .ok (.ldc2_w 219, 3) := by decide +kernel
theorem dX8_simulate_60 : decode cX8_simulate 60 = .ok (.ladd, 1) := by decide +kernel
theorem dX8_simulate_61 : decode cX8_simulate 61 = .ok (.lstore 4, 2) := by decide +kernel
theorem dX8_simulate_63 : decode cX8_simulate 63 = .ok (.lload 4, 2) := by decide +kernel
theorem dX8_simulate_65 : decode cX8_simulate 65 = .ok (.bipush 33, 2) := by decide +kernel
theorem dX8_simulate_67 : decode cX8_simulate 67 = .ok (.lushr, 1) := by decide +kernel
theorem dX8_simulate_68 : decode cX8_simulate 68 = .ok (.l2i, 1) := by decide +kernel
theorem dX8_simulate_69 : decode cX8_simulate 69 = .ok (.istore 7, 2) := by decide +kernel
theorem dX8_simulate_71 : decode cX8_simulate 71 = .ok (.iload 7, 2) := by decide +kernel
theorem dX8_simulate_73 : decode cX8_simulate 73 = .ok (.bipush 16, 2) := by decide +kernel
theorem dX8_simulate_75 : decode cX8_simulate 75 = .ok (.irem, 1) := by decide +kernel
theorem dX8_simulate_76 : decode cX8_simulate 76 = .ok (.iconst 4, 1) := by decide +kernel
theorem dX8_simulate_77 : decode cX8_simulate 77 = .ok (.if_icmp .lt 13, 3) := by decide +kernel
theorem dX8_simulate_80 : decode cX8_simulate 80 = .ok (.iload 7, 2) := by decide +kernel
theorem dX8_simulate_82 : decode cX8_simulate 82 = .ok (.bipush 16, 2) := by decide +kernel
theorem dX8_simulate_84 : decode cX8_simulate 84 = .ok (.irem, 1) := by decide +kernel
theorem dX8_simulate_85 : decode cX8_simulate 85 = .ok (.bipush 13, 2) := by decide +kernel
theorem dX8_simulate_87 : decode cX8_simulate 87 = .ok (.if_icmp .le 23, 3) := by decide +kernel
theorem dX8_simulate_90 : decode cX8_simulate 90 = .ok (.aload_n 0, 1) := by decide +kernel
theorem dX8_simulate_91 : decode cX8_simulate 91 = .ok (.getfield 16, 3) := by decide +kernel
theorem dX8_simulate_94 : decode cX8_simulate 94 = .ok (.iload 7, 2) := by decide +kernel
theorem dX8_simulate_96 : decode cX8_simulate 96 = .ok (.bipush 16, 2) := by decide +kernel
theorem dX8_simulate_98 : decode cX8_simulate 98 = .ok (.irem, 1) := by decide +kernel
theorem dX8_simulate_99 : decode cX8_simulate 99 = .ok (.iload 7, 2) := by decide +kernel
theorem dX8_simulate_101 : decode cX8_simulate 101 = .ok (.bipush 16, 2) := by decide +kernel
theorem dX8_simulate_103 : decode cX8_simulate 103 = .ok (.idiv, 1) := by decide +kernel
theorem dX8_simulate_104 : decode cX8_simulate 104 = .ok (.invokestatic 221, 3) := by decide +kernel
theorem dX8_simulate_107 : decode cX8_simulate 107 = .ok (.goto 20, 3) := by decide +kernel
theorem dX8_simulate_110 : decode cX8_simulate 110 = .ok (.aload_n 0, 1) := by decide +kernel
theorem dX8_simulate_111 : decode cX8_simulate 111 = .ok (.getfield 16, 3) := by decide +kernel
theorem dX8_simulate_114 : decode cX8_simulate 114 = .ok (.iload 7, 2) := by decide +kernel
theorem dX8_simulate_116 : decode cX8_simulate 116 = .ok (.bipush 16, 2) := by decide +kernel
theorem dX8_simulate_118 : decode cX8_simulate 118 = .ok (.irem, 1) := by decide +kernel
theorem dX8_simulate_119 : decode cX8_simulate 119 = .ok (.iload 7, 2) := by decide +kernel
theorem dX8_simulate_121 : decode cX8_simulate 121 = .ok (.bipush 16, 2) := by decide +kernel
theorem dX8_simulate_123 : decode cX8_simulate 123 = .ok (.idiv, 1) := by decide +kernel
theorem dX8_simulate_124 : decode cX8_simulate 124 = .ok (.invokestatic 225, 3) := by decide +kernel
theorem dX8_simulate_127 : decode cX8_simulate 127 = .ok (.iinc 6 1, 3) := by decide +kernel
theorem dX8_simulate_130 : decode cX8_simulate 130 = .ok (.goto (-85), 3) := by decide +kernel
theorem dX8_simulate_133 : decode cX8_simulate 133 = .ok (.aload_n 0, 1) := by decide +kernel
theorem dX8_simulate_134 : decode cX8_simulate 134 = .ok (.getfield 16, 3) := by decide +kernel
theorem dX8_simulate_137 : decode cX8_simulate 137 = .ok (.invokestatic 95, 3) := by decide +kernel
theorem dX8_simulate_140 : decode cX8_simulate 140 = .ok (.istore 6, 2) := by decide +kernel
theorem dX8_simulate_142 : decode cX8_simulate 142 = .ok (.sipush 10000, 3) := by decide +kernel
theorem dX8_simulate_145 : decode cX8_simulate 145 = .ok (.aload_n 0, 1) := by decide +kernel
theorem dX8_simulate_146 : decode cX8_simulate 146 = .ok (.getfield 16, 3) := by decide +kernel
theorem dX8_simulate_149 : decode cX8_simulate 149 = .ok (.iconst 0, 1) := by decide +kernel
theorem dX8_simulate_150 : decode cX8_simulate 150 = .ok (.iaload, 1) := by decide +kernel
theorem dX8_simulate_151 : decode cX8_simulate 151 = .ok (.imul, 1) := by decide +kernel
theorem dX8_simulate_152 : decode cX8_simulate 152 = .ok (.bipush 100, 2) := by decide +kernel
theorem dX8_simulate_154 : decode cX8_simulate 154 = .ok (.aload_n 0, 1) := by decide +kernel
theorem dX8_simulate_155 : decode cX8_simulate 155 = .ok (.getfield 16, 3) := by decide +kernel
theorem dX8_simulate_158 : decode cX8_simulate 158 = .ok (.invokestatic 56, 3) := by decide +kernel
theorem dX8_simulate_161 : decode cX8_simulate 161 = .ok (.imul, 1) := by decide +kernel
theorem dX8_simulate_162 : decode cX8_simulate 162 = .ok (.iadd, 1) := by decide +kernel
theorem dX8_simulate_163 : decode cX8_simulate 163 = .ok (.iload 6, 2) := by decide +kernel
theorem dX8_simulate_165 : decode cX8_simulate 165 = .ok (.bipush 99, 2) := by decide +kernel
theorem dX8_simulate_167 : decode cX8_simulate 167 = .ok (.if_icmp .le 8, 3) := by decide +kernel
theorem dX8_simulate_170 : decode cX8_simulate 170 = .ok (.bipush 99, 2) := by decide +kernel
theorem dX8_simulate_172 : decode cX8_simulate 172 = .ok (.goto 5, 3) := by decide +kernel
theorem dX8_simulate_175 : decode cX8_simulate 175 = .ok (.iload 6, 2) := by decide +kernel
theorem dX8_simulate_177 : decode cX8_simulate 177 = .ok (.iadd, 1) := by decide +kernel
theorem dX8_simulate_178 : decode cX8_simulate 178 = .ok (.ireturn, 1) := by decide +kernel
theorem dX8_save_0 : decode cX8_save 0 = .ok (.aload_n 0, 1) := by decide +kernel
theorem dX8_save_1 : decode cX8_save 1 = .ok (.iload_n 1, 1) := by decide +kernel
theorem dX8_save_2 : decode cX8_save 2 = .ok (.i2l, 1) := by decide +kernel
theorem dX8_save_3 : decode cX8_save 3 = .ok (.lconst 0, 1) := by decide +kernel
theorem dX8_save_4 : decode cX8_save 4 = .ok (.lconst 1, 1) := by decide +kernel
theorem dX8_save_5 : decode cX8_save 5 = .ok (.invokestatic 46, 3) := by decide +kernel
theorem dX8_save_8 : decode cX8_save 8 = .ok (.ifCond .eq 7, 3) := by decide +kernel
theorem dX8_save_11 : decode cX8_save 11 = .ok (.iconst 0, 1) := by decide +kernel
theorem dX8_save_12 : decode cX8_save 12 = .ok (.goto 4, 3) := by decide +kernel
theorem dX8_save_15 : decode cX8_save 15 = .ok (.iconst 1, 1) := by decide +kernel
theorem dX8_save_16 : decode cX8_save 16 = .ok (.invokevirtual 115, 3) := by decide +kernel
theorem dX8_save_19 : decode cX8_save 19 = .ok (.ifCond .eq 5, 3) := by decide +kernel
theorem dX8_save_22 : decode cX8_save 22 = .ok (.iconst 0, 1) := by decide +kernel
theorem dX8_save_23 : decode cX8_save 23 = .ok (.ireturn, 1) := by decide +kernel
theorem dX8_save_24 : decode cX8_save 24 = .ok (.aload_n 0, 1) := by decide +kernel
theorem dX8_save_25 : decode cX8_save 25 = .ok (.getfield 13, 3) := by decide +kernel
theorem dX8_save_28 : decode cX8_save 28 = .ok (.iconst 0, 1) := by decide +kernel
theorem dX8_save_29 : decode cX8_save 29 = .ok (.aload_n 0, 1) := by decide +kernel
theorem dX8_save_30 : decode cX8_save 30 = .ok (.getfield 22, 3) := by decide +kernel
theorem dX8_save_33 : decode cX8_save 33 = .ok (.bipush 54, 2) := by decide +kernel
theorem dX8_save_35 : decode cX8_save 35 = .ok (.iload_n 1, 1) := by decide +kernel
theorem dX8_save_36 : decode cX8_save 36 = .ok (.imul, 1) := by decide +kernel
theorem dX8_save_37 : decode cX8_save 37 = .ok (.invokestatic 175, 3) := by decide +kernel
theorem dX8_save_40 : decode cX8_save 40 = .ok (.aload_n 0, 1) := by decide +kernel
theorem dX8_save_41 : decode cX8_save 41 = .ok (.getfield 25, 3) := by decide +kernel
theorem dX8_save_44 : decode cX8_save 44 = .ok (.iload_n 1, 1) := by decide +kernel
theorem dX8_save_45 : decode cX8_save 45 = .ok (.iconst 1, 1) := by decide +kernel
theorem dX8_save_46 : decode cX8_save 46 = .ok (.bastore, 1) := by decide +kernel
theorem dX8_save_47 : decode cX8_save 47 = .ok (.aload_n 0, 1) := by decide +kernel
theorem dX8_save_48 : decode cX8_save 48 = .ok (.getfield 13, 3) := by decide +kernel
theorem dX8_save_51 : decode cX8_save 51 = .ok (.iconst 0, 1) := by decide +kernel
theorem dX8_save_52 : decode cX8_save 52 = .ok (.iaload, 1) := by decide +kernel
theorem dX8_save_53 : decode cX8_save 53 = .ok (.ireturn, 1) := by decide +kernel
theorem dX8_restore_0 : decode cX8_restore 0 = .ok (.aload_n 0, 1) := by decide +kernel
theorem dX8_restore_1 : decode cX8_restore 1 = .ok (.iload_n 1, 1) := by decide +kernel
theorem dX8_restore_2 : decode cX8_restore 2 = .ok (.i2l, 1) := by decide +kernel
theorem dX8_restore_3 : decode cX8_restore 3 = .ok (.lconst 0, 1) := by decide +kernel
theorem dX8_restore_4 : decode cX8_restore 4 = .ok (.lconst 1, 1) := by decide +kernel
theorem dX8_restore_5 : decode cX8_restore 5 = .ok (.invokestatic 46, 3) := by decide +kernel
theorem dX8_restore_8 : decode cX8_restore 8 = .ok (.ifCond .ne 7, 3) := by decide +kernel
theorem dX8_restore_11 : decode cX8_restore 11 = .ok (.iconst 1, 1) := by decide +kernel
theorem dX8_restore_12 : decode cX8_restore 12 = .ok (.goto 17, 3) := by decide +kernel
theorem dX8_restore_15 : decode cX8_restore 15 = .ok (.aload_n 0, 1) := by decide +kernel
theorem dX8_restore_16 : decode cX8_restore 16 = .ok (.getfield 25, 3) := by decide +kernel
theorem dX8_restore_19 : decode cX8_restore 19 = .ok (.iload_n 1, 1) := by decide +kernel
theorem dX8_restore_20 : decode cX8_restore 20 = .ok (.baload, 1) := by decide +kernel
theorem dX8_restore_21 : decode cX8_restore 21 = .ok (.ifCond .ne 7, 3) := by decide +kernel
theorem dX8_restore_24 : decode cX8_restore 24 = .ok (.iconst 2, 1) := by decide +kernel
theorem dX8_restore_25 : decode cX8_restore 25 = .ok (.goto 4, 3) := by decide +kernel
theorem dX8_restore_28 : decode cX8_restore 28 = .ok (.iconst 0, 1) := by decide +kernel
theorem dX8_restore_29 : decode cX8_restore 29 = .ok (.invokevirtual 115, 3) := by decide +kernel
theorem dX8_restore_32 : decode cX8_restore 32 = .ok (.ifCond .eq 5, 3) := by decide +kernel
theorem dX8_restore_35 : decode cX8_restore 35 = .ok (.iconst 0, 1) := by decide +kernel
theorem dX8_restore_36 : decode cX8_restore 36 = .ok (.ireturn, 1) := by decide +kernel
theorem dX8_restore_37 : decode cX8_restore 37 = .ok (.aload_n 0, 1) := by decide +kernel
theorem dX8_restore_38 : decode cX8_restore 38 = .ok (.getfield 22, 3) := by decide +kernel
theorem dX8_restore_41 : decode cX8_restore 41 = .ok (.bipush 54, 2) := by decide +kernel
theorem dX8_restore_43 : decode cX8_restore 43 = .ok (.iload_n 1, 1) := by decide +kernel
theorem dX8_restore_44 : decode cX8_restore 44 = .ok (.imul, 1) := by decide +kernel
theorem dX8_restore_45 : decode cX8_restore 45 = .ok (.aload_n 0, 1) := by decide +kernel
theorem dX8_restore_46 : decode cX8_restore 46 = .ok (.getfield 13, 3) := by decide +kernel
theorem dX8_restore_49 : decode cX8_restore 49 = .ok (.iconst 0, 1) := by decide +kernel
theorem dX8_restore_50 : decode cX8_restore 50 = .ok (.invokestatic 175, 3) := by decide +kernel
theorem dX8_restore_53 : decode cX8_restore 53 = .ok (.aload_n 0, 1) := by decide +kernel
theorem dX8_restore_54 : decode cX8_restore 54 = .ok (.iconst 0, 1) := by decide +kernel
theorem dX8_restore_55 : decode cX8_restore 55 = .ok (.putfield 179, 3) := by decide +kernel
theorem dX8_restore_58 : decode cX8_restore 58 = .ok (.aload_n 0, 1) := by decide +kernel
theorem dX8_restore_59 : decode cX8_restore 59 = .ok (.getfield 13, 3) := by decide +kernel
theorem dX8_restore_62 : decode cX8_restore 62 = .ok (.iconst 0, 1) := by decide +kernel
theorem dX8_restore_63 : decode cX8_restore 63 = .ok (.iaload, 1) := by decide +kernel
theorem dX8_restore_64 : decode cX8_restore 64 = .ok (.ireturn, 1) := by decide +kernel