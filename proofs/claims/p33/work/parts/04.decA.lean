theorem dX7_init_0 : decode cX7_init 0 = .ok (.aload_n 0, 1) := by decide +kernel
theorem dX7_init_1 : decode cX7_init 1 = .ok (.invokespecial 1, 3) := by decide +kernel
theorem dX7_init_4 : decode cX7_init 4 = .ok (.aload_n 0, 1) := by decide +kernel
theorem dX7_init_5 : decode cX7_init 5 = .ok (.new 7, 3) := by decide +kernel
theorem dX7_init_8 : decode cX7_init 8 = .ok (.dup, 1) := by decide +kernel
theorem dX7_init_9 : decode cX7_init 9 = .ok (.invokespecial 9, 3) := by decide +kernel
theorem dX7_init_12 : decode cX7_init 12 = .ok (.putfield 10, 3) := by decide +kernel
theorem dX7_init_15 : decode cX7_init 15 = .ok (.aload_n 0, 1) := by decide +kernel
theorem dX7_init_16 : decode cX7_init 16 = .ok (.new 16, 3) := by decide +kernel
theorem dX7_init_19 : decode cX7_init 19 = .ok (.dup, 1) := by decide +kernel
theorem dX7_init_20 : decode cX7_init 20 = .ok (.invokespecial 18, 3) := by decide +kernel
theorem dX7_init_23 : decode cX7_init 23 = .ok (.putfield 19, 3) := by decide +kernel
theorem dX7_init_26 : decode cX7_init 26 = .ok (.aload_n 0, 1) := by decide +kernel
theorem dX7_init_27 : decode cX7_init 27 = .ok (.new 16, 3) := by decide +kernel
theorem dX7_init_30 : decode cX7_init 30 = .ok (.dup, 1) := by decide +kernel
theorem dX7_init_31 : decode cX7_init 31 = .ok (.invokespecial 18, 3) := by decide +kernel
theorem dX7_init_34 : decode cX7_init 34 = .ok (.putfield 23, 3) := by decide +kernel
theorem dX7_init_37 : decode cX7_init 37 = .ok (.aload_n 0, 1) := by decide +kernel
theorem dX7_init_38 : decode cX7_init 38 = .ok (.new 26, 3) := by decide +kernel
theorem dX7_init_41 : decode cX7_init 41 = .ok (.dup, 1) := by decide +kernel
theorem dX7_init_42 : decode cX7_init 42 = .ok (.invokespecial 28, 3) := by decide +kernel
theorem dX7_init_45 : decode cX7_init 45 = .ok (.putfield 29, 3) := by decide +kernel
theorem dX7_init_48 : decode cX7_init 48 = .ok (.aload_n 0, 1) := by decide +kernel
theorem dX7_init_49 : decode cX7_init 49 = .ok (.new 33, 3) := by decide +kernel
theorem dX7_init_52 : decode cX7_init 52 = .ok (.dup, 1) := by decide +kernel
theorem dX7_init_53 : decode cX7_init 53 = .ok (.invokespecial 35, 3) := by decide +kernel
theorem dX7_init_56 : decode cX7_init 56 = .ok (.putfield 36, 3) := by decide +kernel
theorem dX7_init_59 : decode cX7_init 59 = .ok (.aload_n 0, 1) := by decide +kernel
theorem dX7_init_60 : decode cX7_init 60 = .ok (.new 40, 3) := by decide +kernel
theorem dX7_init_63 : decode cX7_init 63 = .ok (.dup, 1) := by decide +kernel
theorem dX7_init_64 : decode cX7_init 64 = .ok (.invokespecial 42, 3) := by decide +kernel
theorem dX7_init_67 : decode cX7_init 67 = .ok (.putfield 43, 3) := by decide +kernel
theorem dX7_init_70 : decode cX7_init 70 = .ok (.aload_n 0, 1) := by decide +kernel
theorem dX7_init_71 : decode cX7_init 71 = .ok (.new 40, 3) := by decide +kernel
theorem dX7_init_74 : decode cX7_init 74 = .ok (.dup, 1) := by decide +kernel
theorem dX7_init_75 : decode cX7_init 75 = .ok (.invokespecial 42, 3) := by decide +kernel
theorem dX7_init_78 : decode cX7_init 78 = .ok (.putfield 47, 3) := by decide +kernel
theorem dX7_init_81 : decode cX7_init 81 = .ok (.return_, 1) := by decide +kernel
theorem dX7_append_0 : decode cX7_append 0 = .ok (.iload_n 1, 1) := by decide +kernel
theorem dX7_append_1 : decode cX7_append 1 = .ok (.ifCond .lt 10, 3) := by decide +kernel
theorem dX7_append_4 : decode cX7_append 4 = .ok (.iload_n 1, 1) := by decide +kernel
theorem dX7_append_5 : decode cX7_append 5 = .ok (.sipush 255, 3) := by decide +kernel
theorem dX7_append_8 : decode cX7_append 8 = .ok (.if_icmp .le 13, 3) := by decide +kernel
theorem dX7_append_11 : decode cX7_append 11 = .ok (.new 50, 3) := by decide +kernel
theorem dX7_append_14 : decode cX7_append 14 = .ok (.dup, 1) := by decide +kernel
theorem dX7_append_15 : decode cX7_append 15 = .ok (.ldc 52, 2) := by decide +kernel
theorem dX7_append_17 : decode cX7_append 17 = .ok (.invokespecial 54, 3) := by decide +kernel
theorem dX7_append_20 : decode cX7_append 20 = .ok (.athrow, 1) := by decide +kernel
theorem dX7_append_21 : decode cX7_append 21 = .ok (.aload_n 0, 1) := by decide +kernel
theorem dX7_append_22 : decode cX7_append 22 = .ok (.getfield 10, 3) := by decide +kernel
theorem dX7_append_25 : decode cX7_append 25 = .ok (.getfield 57, 3) := by decide +kernel
theorem dX7_append_28 : decode cX7_append 28 = .ok (.bipush 120, 2) := by decide +kernel
theorem dX7_append_30 : decode cX7_append 30 = .ok (.if_icmp .lt 13, 3) := by decide +kernel
theorem dX7_append_33 : decode cX7_append 33 = .ok (.new 61, 3) := by decide +kernel
theorem dX7_append_36 : decode cX7_append 36 = .ok (.dup, 1) := by decide +kernel
theorem dX7_append_37 : decode cX7_append 37 = .ok (.ldc 63, 2) := by decide +kernel
theorem dX7_append_39 : decode cX7_append 39 = .ok (.invokespecial 65, 3) := by decide +kernel
theorem dX7_append_42 : decode cX7_append 42 = .ok (.athrow, 1) := by decide +kernel
theorem dX7_append_43 : decode cX7_append 43 = .ok (.aload_n 0, 1) := by decide +kernel
theorem dX7_append_44 : decode cX7_append 44 = .ok (.getfield 10, 3) := by decide +kernel
theorem dX7_append_47 : decode cX7_append 47 = .ok (.iload_n 1, 1) := by decide +kernel
theorem dX7_append_48 : decode cX7_append 48 = .ok (.i2c, 1) := by decide +kernel
theorem dX7_append_49 : decode cX7_append 49 = .ok (.invokevirtual 66, 3) := by decide +kernel
theorem dX7_append_52 : decode cX7_append 52 = .ok (.aload_n 0, 1) := by decide +kernel
theorem dX7_append_53 : decode cX7_append 53 = .ok (.getfield 10, 3) := by decide +kernel
theorem dX7_append_56 : decode cX7_append 56 = .ok (.getfield 57, 3) := by decide +kernel
theorem dX7_append_59 : decode cX7_append 59 = .ok (.ireturn, 1) := by decide +kernel
theorem dX7_load_0 : decode cX7_load 0 = .ok (.aload_n 0, 1) := by decide +kernel
theorem dX7_load_1 : decode cX7_load 1 = .ok (.getfield 10, 3) := by decide +kernel
theorem dX7_load_4 : decode cX7_load 4 = .ok (.invokevirtual 70, 3) := by decide +kernel
theorem dX7_load_7 : decode cX7_load 7 = .ok (.iconst (-1), 1) := by decide +kernel
theorem dX7_load_8 : decode cX7_load 8 = .ok (.if_icmp .eq 13, 3) := by decide +kernel
theorem dX7_load_11 : decode cX7_load 11 = .ok (.new 61, 3) := by decide +kernel
theorem dX7_load_14 : decode cX7_load 14 = .ok (.dup, 1) := by decide +kernel
theorem dX7_load_15 : decode cX7_load 15 = .ok (.ldc 74, 2) := by decide +kernel
theorem dX7_load_17 : decode cX7_load 17 = .ok (.invokespecial 65, 3) := by decide +kernel
theorem dX7_load_20 : decode cX7_load 20 = .ok (.athrow, 1) := by decide +kernel
theorem dX7_load_21 : decode cX7_load 21 = .ok (.aload_n 0, 1) := by decide +kernel
theorem dX7_load_22 : decode cX7_load 22 = .ok (.getfield 19, 3) := by decide +kernel
theorem dX7_load_25 : decode cX7_load 25 = .ok (.invokevirtual 76, 3) := by decide +kernel
theorem dX7_load_28 : decode cX7_load 28 = .ok (.aload_n 0, 1) := by decide +kernel
theorem dX7_load_29 : decode cX7_load 29 = .ok (.getfield 29, 3) := by decide +kernel
theorem dX7_load_32 : decode cX7_load 32 = .ok (.invokevirtual 79, 3) := by decide +kernel
theorem dX7_load_35 : decode cX7_load 35 = .ok (.aload_n 0, 1) := by decide +kernel
theorem dX7_load_36 : decode cX7_load 36 = .ok (.getfield 43, 3) := by decide +kernel
theorem dX7_load_39 : decode cX7_load 39 = .ok (.iconst 0, 1) := by decide +kernel
theorem dX7_load_40 : decode cX7_load 40 = .ok (.putfield 82, 3) := by decide +kernel
theorem dX7_load_43 : decode cX7_load 43 = .ok (.aload_n 0, 1) := by decide +kernel
theorem dX7_load_44 : decode cX7_load 44 = .ok (.getfield 47, 3) := by decide +kernel
theorem dX7_load_47 : decode cX7_load 47 = .ok (.iconst 0, 1) := by decide +kernel
theorem dX7_load_48 : decode cX7_load 48 = .ok (.putfield 82, 3) := by decide +kernel
theorem dX7_load_51 : decode cX7_load 51 = .ok (.aload_n 0, 1) := by decide +kernel
theorem dX7_load_52 : decode cX7_load 52 = .ok (.getfield 10, 3) := by decide +kernel
theorem dX7_load_55 : decode cX7_load 55 = .ok (.aload_n 0, 1) := by decide +kernel
theorem dX7_load_56 : decode cX7_load 56 = .ok (.getfield 19, 3) := by decide +kernel
theorem dX7_load_59 : decode cX7_load 59 = .ok (.invokevirtual 86, 3) := by decide +kernel
theorem dX7_load_62 : decode cX7_load 62 = .ok (.ireturn, 1) := by decide +kernel
theorem dX7_about_0 : decode cX7_about 0 = .ok (.iload_n 1, 1) := by decide +kernel
theorem dX7_about_1 : decode cX7_about 1 = .ok (.tableswitch 143 0 9 #[55, 63, 71, 79, 87, 95, 111, 119, 127, 135], 55) := by decide +kernel
theorem dX7_about_56 : decode cX7_about 56 = .ok (.aload_n 0, 1) := by decide +kernel
theorem dX7_about_57 : decode cX7_about 57 = .ok (.getfield 19, 3) := by decide +kernel
theorem dX7_about_60 : decode cX7_about 60 = .ok (.getfield 90, 3) := by decide +kernel
theorem dX7_about_63 : decode cX7_about 63 = .ok (.ireturn, 1) := by decide +kernel
theorem dX7_about_64 : decode cX7_about 64 = .ok (.aload_n 0, 1) := by decide +kernel
theorem dX7_about_65 : decode cX7_about 65 = .ok (.getfield 19, 3) := by decide +kernel
theorem dX7_about_68 : decode cX7_about 68 = .ok (.getfield 93, 3) := by decide +kernel
theorem dX7_about_71 : decode cX7_about 71 = .ok (.ireturn, 1) := by decide +kernel
theorem dX7_about_72 : decode cX7_about 72 = .ok (.aload_n 0, 1) := by decide +kernel
theorem dX7_about_73 : decode cX7_about 73 = .ok (.getfield 19, 3) := by decide +kernel
theorem dX7_about_76 : decode cX7_about 76 = .ok (.invokevirtual 96, 3) := by decide +kernel
theorem dX7_about_79 : decode cX7_about 79 = .ok (.ireturn, 1) := by decide +kernel
theorem dX7_about_80 : decode cX7_about 80 = .ok (.aload_n 0, 1) := by decide +kernel
theorem dX7_about_81 : decode cX7_about 81 = .ok (.getfield 19, 3) := by decide +kernel
theorem dX7_about_84 : decode cX7_about 84 = .ok (.invokevirtual 99, 3) := by decide +kernel
theorem dX7_about_87 : decode cX7_about 87 = .ok (.ireturn, 1) := by decide +kernel
theorem dX7_about_88 : decode cX7_about 88 = .ok (.aload_n 0, 1) := by decide +kernel
theorem dX7_about_89 : decode cX7_about 89 = .ok (.getfield 19, 3) := by decide +kernel
theorem dX7_about_92 : decode cX7_about 92 = .ok (.invokevirtual 102, 3) := by decide +kernel
theorem dX7_about_95 : decode cX7_about 95 = .ok (.ireturn, 1) := by decide +kernel
theorem dX7_about_96 : decode cX7_about 96 = .ok (.aload_n 0, 1) := by decide +kernel
theorem dX7_about_97 : decode cX7_about 97 = .ok (.getfield 19, 3) := by decide +kernel
theorem dX7_about_100 : decode cX7_about 100 = .ok (.invokevirtual 105, 3) := by decide +kernel
theorem dX7_about_103 : decode cX7_about 103 = .ok (.ifCond .eq 7, 3) := by decide +kernel
theorem dX7_about_106 : decode cX7_about 106 = .ok (.iconst 1, 1) := by decide +kernel
theorem dX7_about_107 : decode cX7_about 107 = .ok (.goto 4, 3) := by decide +kernel
theorem dX7_about_110 : decode cX7_about 110 = .ok (.iconst 0, 1) := by decide +kernel
theorem dX7_about_111 : decode cX7_about 111 = .ok (.ireturn, 1) := by decide +kernel
theorem dX7_about_112 : decode cX7_about 112 = .ok (.aload_n 0, 1) := by decide +kernel
theorem dX7_about_113 : decode cX7_about 113 = .ok (.getfield 19, 3) := by decide +kernel
theorem dX7_about_116 : decode cX7_about 116 = .ok (.getfield 109, 3) := by decide +kernel
theorem dX7_about_119 : decode cX7_about 119 = .ok (.ireturn, 1) := by decide +kernel
theorem dX7_about_120 : decode cX7_about 120 = .ok (.aload_n 0, 1) := by decide +kernel
theorem dX7_about_121 : decode cX7_about 121 = .ok (.getfield 19, 3) := by decide +kernel
theorem dX7_about_124 : decode cX7_about 124 = .ok (.invokevirtual 112, 3) := by decide +kernel
theorem dX7_about_127 : decode cX7_about 127 = .ok (.ireturn, 1) := by decide +kernel
theorem dX7_about_128 : decode cX7_about 128 = .ok (.aload_n 0, 1) := by decide +kernel
theorem dX7_about_129 : decode cX7_about 129 = .ok (.getfield 19, 3) := by decide +kernel
theorem dX7_about_132 : decode cX7_about 132 = .ok (.getfield 115, 3) := by decide +kernel
theorem dX7_about_135 : decode cX7_about 135 = .ok (.ireturn, 1) := by decide +kernel
theorem dX7_about_136 : decode cX7_about 136 = .ok (.aload_n 0, 1) := by decide +kernel
theorem dX7_about_137 : decode cX7_about 137 = .ok (.getfield 19, 3) := by decide +kernel
theorem dX7_about_140 : decode cX7_about 140 = .ok (.getfield 118, 3) := by decide +kernel
theorem dX7_about_143 : decode cX7_about 143 = .ok (.ireturn, 1) := by decide +kernel
theorem dX7_about_144 : decode cX7_about 144 = .ok (.new 50, 3) := by decide +kernel
theorem dX7_about_147 : decode cX7_about 147 = .ok (.dup, 1) := by decide +kernel
theorem dX7_about_148 : decode cX7_about 148 = .ok (.ldc 121, 2) := by decide +kernel
theorem dX7_about_150 : decode cX7_about 150 = .ok (.invokespecial 54, 3) := by decide +kernel
theorem dX7_about_153 : decode cX7_about 153 = .ok (.athrow, 1) := by decide +kernel
theorem dX7_jewelOf_0 : decode cX7_jewelOf 0 = .ok (.aload_n 0, 1) := by decide +kernel
theorem dX7_jewelOf_1 : decode cX7_jewelOf 1 = .ok (.getfield 19, 3) := by decide +kernel
theorem dX7_jewelOf_4 : decode cX7_jewelOf 4 = .ok (.iload_n 1, 1) := by decide +kernel
theorem dX7_jewelOf_5 : decode cX7_jewelOf 5 = .ok (.invokevirtual 123, 3) := by decide +kernel
theorem dX7_jewelOf_8 : decode cX7_jewelOf 8 = .ok (.ifCond .ne 13, 3) := by decide +kernel
theorem dX7_jewelOf_11 : decode cX7_jewelOf 11 = .ok (.new 127, 3) := by decide +kernel
theorem dX7_jewelOf_14 : decode cX7_jewelOf 14 = .ok (.dup, 1) := by decide +kernel
theorem dX7_jewelOf_15 : decode cX7_jewelOf 15 = .ok (.ldc 129, 2) := by decide +kernel
theorem dX7_jewelOf_17 : decode cX7_jewelOf 17 = .ok (.invokespecial 131, 3) := by decide +kernel
theorem dX7_jewelOf_20 : decode cX7_jewelOf 20 = .ok (.athrow, 1) := by decide +kernel
theorem dX7_jewelOf_21 : decode cX7_jewelOf 21 = .ok (.iload_n 2, 1) := by decide +kernel
theorem dX7_jewelOf_22 : decode cX7_jewelOf 22 = .ok (.tableswitch 53 0 2 #[26, 35, 44], 26) := by decide +kernel
theorem dX7_jewelOf_48 : decode cX7_jewelOf 48 = .ok (.aload_n 0, 1) := by decide +kernel
theorem dX7_jewelOf_49 : decode cX7_jewelOf 49 = .ok (.getfield 19, 3) := by decide +kernel
theorem dX7_jewelOf_52 : decode cX7_jewelOf 52 = .ok (.iload_n 1, 1) := by decide +kernel
theorem dX7_jewelOf_53 : decode cX7_jewelOf 53 = .ok (.invokevirtual 132, 3) := by decide +kernel
theorem dX7_jewelOf_56 : decode cX7_jewelOf 56 = .ok (.ireturn, 1) := by decide +kernel
theorem dX7_jewelOf_57 : decode cX7_jewelOf 57 = .ok (.aload_n 0, 1) := by decide +kernel
theorem dX7_jewelOf_58 : decode cX7_jewelOf 58 = .ok (.getfield 19, 3) := by decide +kernel
theorem dX7_jewelOf_61 : decode cX7_jewelOf 61 = .ok (.iload_n 1, 1) := by decide +kernel
theorem dX7_jewelOf_62 : decode cX7_jewelOf 62 = .ok (.invokevirtual 136, 3) := by decide +kernel
theorem dX7_jewelOf_65 : decode cX7_jewelOf 65 = .ok (.ireturn, 1) := by decide +kernel
theorem dX7_jewelOf_66 : decode cX7_jewelOf 66 = .ok (.aload_n 0, 1) := by decide +kernel
theorem dX7_jewelOf_67 : decode cX7_jewelOf 67 = .ok (.getfield 19, 3) := by decide +kernel
theorem dX7_jewelOf_70 : decode cX7_jewelOf 70 = .ok (.iload_n 1, 1) := by decide +kernel
theorem dX7_jewelOf_71 : decode cX7_jewelOf 71 = .ok (.invokevirtual 139, 3) := by decide +kernel
theorem dX7_jewelOf_74 : decode cX7_jewelOf 74 = .ok (.ireturn, 1) := by decide +kernel
theorem dX7_jewelOf_75 : decode cX7_jewelOf 75 = .ok (.new 50, 3) := by decide +kernel
theorem dX7_jewelOf_78 : decode cX7_jewelOf 78 = .ok (.dup, 1) := by decide +kernel
theorem dX7_jewelOf_79 : decode cX7_jewelOf 79 = .ok (.ldc 142, 2) := by decide +kernel
theorem dX7_jewelOf_81 : decode cX7_jewelOf 81 = .ok (.invokespecial 54, 3) := by decide +kernel
theorem dX7_jewelOf_84 : decode cX7_jewelOf 84 = .ok (.athrow, 1) := by decide +kernel
theorem dX7_placeOf_0 : decode cX7_placeOf 0 = .ok (.aload_n 0, 1) := by decide +kernel
theorem dX7_placeOf_1 : decode cX7_placeOf 1 = .ok (.getfield 19, 3) := by decide +kernel
theorem dX7_placeOf_4 : decode cX7_placeOf 4 = .ok (.iload_n 1, 1) := by decide +kernel
theorem dX7_placeOf_5 : decode cX7_placeOf 5 = .ok (.invokevirtual 144, 3) := by decide +kernel
theorem dX7_placeOf_8 : decode cX7_placeOf 8 = .ok (.ifCond .ne 13, 3) := by decide +kernel
theorem dX7_placeOf_11 : decode cX7_placeOf 11 = .ok (.new 127, 3) := by decide +kernel
theorem dX7_placeOf_14 : decode cX7_placeOf 14 = .ok (.dup, 1) := by decide +kernel
theorem dX7_placeOf_15 : decode cX7_placeOf 15 = .ok (.ldc 147, 2) := by decide +kernel
theorem dX7_placeOf_17 : decode cX7_placeOf 17 = .ok (.invokespecial 131, 3) := by decide +kernel
theorem dX7_placeOf_20 : decode cX7_placeOf 20 = .ok (.athrow, 1) := by decide +kernel
theorem dX7_placeOf_21 : decode cX7_placeOf 21 = .ok (.iload_n 2, 1) := by decide +kernel
theorem dX7_placeOf_22 : decode cX7_placeOf 22 = .ok (.tableswitch 74 0 3 #[30, 39, 48, 57], 30) := by decide +kernel
theorem dX7_placeOf_52 : decode cX7_placeOf 52 = .ok (.aload_n 0, 1) := by decide +kernel
theorem dX7_placeOf_53 : decode cX7_placeOf 53 = .ok (.getfield 19, 3) := by decide +kernel
theorem dX7_placeOf_56 : decode cX7_placeOf 56 = .ok (.iload_n 1, 1) := by decide +kernel
theorem dX7_placeOf_57 : decode cX7_placeOf 57 = .ok (.invokevirtual 149, 3) := by decide +kernel
theorem dX7_placeOf_60 : decode cX7_placeOf 60 = .ok (.ireturn, 1) := by decide +kernel
theorem dX7_placeOf_61 : decode cX7_placeOf 61 = .ok (.aload_n 0, 1) := by decide +kernel
theorem dX7_placeOf_62 : decode cX7_placeOf 62 = .ok (.getfield 19, 3) := by decide +kernel
theorem dX7_placeOf_65 : decode cX7_placeOf 65 = .ok (.iload_n 1, 1) := by decide +kernel
theorem dX7_placeOf_66 : decode cX7_placeOf 66 = .ok (.invokevirtual 152, 3) := by decide +kernel
theorem dX7_placeOf_69 : decode cX7_placeOf 69 = .ok (.ireturn, 1) := by decide +kernel
theorem dX7_placeOf_70 : decode cX7_placeOf 70 = .ok (.aload_n 0, 1) := by decide +kernel
theorem dX7_placeOf_71 : decode cX7_placeOf 71 = .ok (.getfield 19, 3) := by decide +kernel
theorem dX7_placeOf_74 : decode cX7_placeOf 74 = .ok (.iload_n 1, 1) := by decide +kernel
theorem dX7_placeOf_75 : decode cX7_placeOf 75 = .ok (.invokevirtual 155, 3) := by decide +kernel
theorem dX7_placeOf_78 : decode cX7_placeOf 78 = .ok (.ireturn, 1) := by decide +kernel
theorem dX7_placeOf_79 : decode cX7_placeOf 79 = .ok (.aload_n 0, 1) := by decide +kernel
theorem dX7_placeOf_80 : decode cX7_placeOf 80 = .ok (.getfield 19, 3) := by decide +kernel
theorem dX7_placeOf_83 : decode cX7_placeOf 83 = .ok (.iload_n 1, 1) := by decide +kernel
theorem dX7_placeOf_84 : decode cX7_placeOf 84 = .ok (.invokevirtual 158, 3) := by decide +kernel
theorem dX7_placeOf_87 : decode cX7_placeOf 87 = .ok (.ifCond .eq 7, 3) := by decide +kernel
theorem dX7_placeOf_90 : decode cX7_placeOf 90 = .ok (.iconst 1, 1) := by decide +kernel
theorem dX7_placeOf_91 : decode cX7_placeOf 91 = .ok (.goto 4, 3) := by decide +kernel
theorem dX7_placeOf_94 : decode cX7_placeOf 94 = .ok (.iconst 0, 1) := by decide +kernel
theorem dX7_placeOf_95 : decode cX7_placeOf 95 = .ok (.ireturn, 1) := by decide +kernel
theorem dX7_placeOf_96 : decode cX7_placeOf 96 = .ok (.new 50, 3) := by decide +kernel
theorem dX7_placeOf_99 : decode cX7_placeOf 99 = .ok (.dup, 1) := by decide +kernel
theorem dX7_placeOf_100 : decode cX7_placeOf 100 = .ok (.ldc 161, 2) := by decide +kernel
theorem dX7_placeOf_102 : decode cX7_placeOf 102 = .ok (.invokespecial 54, 3) := by decide +kernel
theorem dX7_placeOf_105 : decode cX7_placeOf 105 = .ok (.athrow, 1) := by decide +kernel
theorem dX7_runOf_0 : decode cX7_runOf 0 = .ok (.aload_n 0, 1) := by decide +kernel
theorem dX7_runOf_1 : decode cX7_runOf 1 = .ok (.getfield 19, 3) := by decide +kernel
theorem dX7_runOf_4 : decode cX7_runOf 4 = .ok (.iload_n 1, 1) := by decide +kernel
theorem dX7_runOf_5 : decode cX7_runOf 5 = .ok (.invokevirtual 163, 3) := by decide +kernel
theorem dX7_runOf_8 : decode cX7_runOf 8 = .ok (.ifCond .ne 13, 3) := by decide +kernel
theorem dX7_runOf_11 : decode cX7_runOf 11 = .ok (.new 127, 3) := by decide +kernel
theorem dX7_runOf_14 : decode cX7_runOf 14 = .ok (.dup, 1) := by decide +kernel
theorem dX7_runOf_15 : decode cX7_runOf 15 = .ok (.ldc 166, 2) := by decide +kernel
theorem dX7_runOf_17 : decode cX7_runOf 17 = .ok (.invokespecial 131, 3) := by decide +kernel
theorem dX7_runOf_20 : decode cX7_runOf 20 = .ok (.athrow, 1) := by decide +kernel
theorem dX7_runOf_21 : decode cX7_runOf 21 = .ok (.iload_n 2, 1) := by decide +kernel
theorem dX7_runOf_22 : decode cX7_runOf 22 = .ok (.tableswitch 73 0 3 #[30, 39, 48, 64], 30) := by decide +kernel
theorem dX7_runOf_52 : decode cX7_runOf 52 = .ok (.aload_n 0, 1) := by decide +kernel
theorem dX7_runOf_53 : decode cX7_runOf 53 = .ok (.getfield 19, 3) := by decide +kernel
theorem dX7_runOf_56 : decode cX7_runOf 56 = .ok (.iload_n 1, 1) := by decide +kernel
theorem dX7_runOf_57 : decode cX7_runOf 57 = .ok (.invokevirtual 168, 3) := by decide +kernel
theorem dX7_runOf_60 : decode cX7_runOf 60 = .ok (.ireturn, 1) := by decide +kernel
theorem dX7_runOf_61 : decode cX7_runOf 61 = .ok (.aload_n 0, 1) := by decide +kernel
theorem dX7_runOf_62 : decode cX7_runOf 62 = .ok (.getfield 19, 3) := by decide +kernel
theorem dX7_runOf_65 : decode cX7_runOf 65 = .ok (.iload_n 1, 1) := by decide +kernel
theorem dX7_runOf_66 : decode cX7_runOf 66 = .ok (.invokevirtual 171, 3) := by decide +kernel
theorem dX7_runOf_69 : decode cX7_runOf 69 = .ok (.ireturn, 1) := by decide +kernel
theorem dX7_runOf_70 : decode cX7_runOf 70 = .ok (.aload_n 0, 1) := by decide +kernel
theorem dX7_runOf_71 : decode cX7_runOf 71 = .ok (.getfield 19, 3) := by decide +kernel
theorem dX7_runOf_74 : decode cX7_runOf 74 = .ok (.aload_n 0, 1) := by decide +kernel
theorem dX7_runOf_75 : decode cX7_runOf 75 = .ok (.getfield 19, 3) := by decide +kernel
theorem dX7_runOf_78 : decode cX7_runOf 78 = .ok (.iload_n 1, 1) := by decide +kernel
theorem dX7_runOf_79 : decode cX7_runOf 79 = .ok (.invokevirtual 168, 3) := by decide +kernel
theorem dX7_runOf_82 : decode cX7_runOf 82 = .ok (.invokevirtual 152, 3) := by decide +kernel
theorem dX7_runOf_85 : decode cX7_runOf 85 = .ok (.ireturn, 1) := by decide +kernel
theorem dX7_runOf_86 : decode cX7_runOf 86 = .ok (.aload_n 0, 1) := by decide +kernel
theorem dX7_runOf_87 : decode cX7_runOf 87 = .ok (.getfield 19, 3) := by decide +kernel
theorem dX7_runOf_90 : decode cX7_runOf 90 = .ok (.iload_n 1, 1) := by decide +kernel
theorem dX7_runOf_91 : decode cX7_runOf 91 = .ok (.invokevirtual 174, 3) := by decide +kernel
theorem dX7_runOf_94 : decode cX7_runOf 94 = .ok (.ireturn, 1) := by decide +kernel
theorem dX7_runOf_95 : decode cX7_runOf 95 = .ok (.new 50, 3) := by decide +kernel
theorem dX7_runOf_98 : decode cX7_runOf 98 = .ok (.dup, 1) := by decide +kernel
theorem dX7_runOf_99 : decode cX7_runOf 99 = .ok (.ldc 161, 2) := by decide +kernel
theorem dX7_runOf_101 : decode cX7_runOf 101 = .ok (.invokespecial 54, 3) := by decide +kernel
theorem dX7_runOf_104 : decode cX7_runOf 104 = .ok (.athrow, 1) := by decide +kernel
theorem dX7_has_0 : decode cX7_has 0 = .ok (.iload_n 1, 1) := by decide +kernel
theorem dX7_has_1 : decode cX7_has 1 = .ok (.invokestatic 177, 3) := by decide +kernel
theorem dX7_has_4 : decode cX7_has 4 = .ok (.ifCond .eq 10, 3) := by decide +kernel
theorem dX7_has_7 : decode cX7_has 7 = .ok (.iload_n 2, 1) := by decide +kernel
theorem dX7_has_8 : decode cX7_has 8 = .ok (.invokestatic 180, 3) := by decide +kernel
theorem dX7_has_11 : decode cX7_has 11 = .ok (.ifCond .ne 13, 3) := by decide +kernel
theorem dX7_has_14 : decode cX7_has 14 = .ok (.new 127, 3) := by decide +kernel
theorem dX7_has_17 : decode cX7_has 17 = .ok (.dup, 1) := by decide +kernel
theorem dX7_has_18 : decode cX7_has 18 = .ok (.ldc 183, 2) := by decide +kernel
theorem dX7_has_20 : decode cX7_has 20 = .ok (.invokespecial 131, 3) := by decide +kernel
theorem dX7_has_23 : decode cX7_has 23 = .ok (.athrow, 1) := by decide +kernel
theorem dX7_has_24 : decode cX7_has 24 = .ok (.aload_n 0, 1) := by decide +kernel
theorem dX7_has_25 : decode cX7_has 25 = .ok (.getfield 19, 3) := by decide +kernel
theorem dX7_has_28 : decode cX7_has 28 = .ok (.iload_n 1, 1) := by decide +kernel
theorem dX7_has_29 : decode cX7_has 29 = .ok (.iload_n 2, 1) := by decide +kernel
theorem dX7_has_30 : decode cX7_has 30 = .ok (.invokevirtual 185, 3) := by decide +kernel
theorem dX7_has_33 : decode cX7_has 33 = .ok (.ireturn, 1) := by decide +kernel
theorem dX7_jewel_0 : decode cX7_jewel 0 = .ok (.iload_n 1, 1) := by decide +kernel
theorem dX7_jewel_1 : decode cX7_jewel 1 = .ok (.invokestatic 180, 3) := by decide +kernel
theorem dX7_jewel_4 : decode cX7_jewel 4 = .ok (.ifCond .ne 13, 3) := by decide +kernel
theorem dX7_jewel_7 : decode cX7_jewel 7 = .ok (.new 127, 3) := by decide +kernel
theorem dX7_jewel_10 : decode cX7_jewel 10 = .ok (.dup, 1) := by decide +kernel
theorem dX7_jewel_11 : decode cX7_jewel 11 = .ok (.ldc 189, 2) := by decide +kernel
theorem dX7_jewel_13 : decode cX7_jewel 13 = .ok (.invokespecial 131, 3) := by decide +kernel
theorem dX7_jewel_16 : decode cX7_jewel 16 = .ok (.athrow, 1) := by decide +kernel
theorem dX7_jewel_17 : decode cX7_jewel 17 = .ok (.iload_n 2, 1) := by decide +kernel
theorem dX7_jewel_18 : decode cX7_jewel 18 = .ok (.invokestatic 191, 3) := by decide +kernel
theorem dX7_jewel_21 : decode cX7_jewel 21 = .ok (.ifCond .ne 13, 3) := by decide +kernel
theorem dX7_jewel_24 : decode cX7_jewel 24 = .ok (.new 50, 3) := by decide +kernel
theorem dX7_jewel_27 : decode cX7_jewel 27 = .ok (.dup, 1) := by decide +kernel
theorem dX7_jewel_28 : decode cX7_jewel 28 = .ok (.ldc 194, 2) := by decide +kernel
theorem dX7_jewel_30 : decode cX7_jewel 30 = .ok (.invokespecial 54, 3) := by decide +kernel
theorem dX7_jewel_33 : decode cX7_jewel 33 = .ok (.athrow, 1) := by decide +kernel
theorem dX7_jewel_34 : decode cX7_jewel 34 = .ok (.aload_n 0, 1) := by decide +kernel
theorem dX7_jewel_35 : decode cX7_jewel 35 = .ok (.getfield 19, 3) := by decide +kernel
theorem dX7_jewel_38 : decode cX7_jewel 38 = .ok (.getfield 90, 3) := by decide +kernel
theorem dX7_jewel_41 : decode cX7_jewel 41 = .ok (.bipush 16, 2) := by decide +kernel
theorem dX7_jewel_43 : decode cX7_jewel 43 = .ok (.if_icmp .lt 13, 3) := by decide +kernel
theorem dX7_jewel_46 : decode cX7_jewel 46 = .ok (.new 61, 3) := by decide +kernel
theorem dX7_jewel_49 : decode cX7_jewel 49 = .ok (.dup, 1) := by decide +kernel
theorem dX7_jewel_50 : decode cX7_jewel 50 = .ok (.ldc 196, 2) := by decide +kernel
theorem dX7_jewel_52 : decode cX7_jewel 52 = .ok (.invokespecial 65, 3) := by decide +kernel
theorem dX7_jewel_55 : decode cX7_jewel 55 = .ok (.athrow, 1) := by decide +kernel
theorem dX7_jewel_56 : decode cX7_jewel 56 = .ok (.aload_n 0, 1) := by decide +kernel
theorem dX7_jewel_57 : decode cX7_jewel 57 = .ok (.getfield 29, 3) := by decide +kernel
theorem dX7_jewel_60 : decode cX7_jewel 60 = .ok (.aload_n 0, 1) := by decide +kernel
theorem dX7_jewel_61 : decode cX7_jewel 61 = .ok (.getfield 19, 3) := by decide +kernel
theorem dX7_jewel_64 : decode cX7_jewel 64 = .ok (.invokevirtual 198, 3) := by decide +kernel
theorem dX7_jewel_67 : decode cX7_jewel 67 = .ok (.aload_n 0, 1) := by decide +kernel
theorem dX7_jewel_68 : decode cX7_jewel 68 = .ok (.getfield 19, 3) := by decide +kernel
theorem dX7_jewel_71 : decode cX7_jewel 71 = .ok (.iload_n 1, 1) := by decide +kernel
theorem dX7_jewel_72 : decode cX7_jewel 72 = .ok (.iload_n 2, 1) := by decide +kernel
theorem dX7_jewel_73 : decode cX7_jewel 73 = .ok (.invokevirtual 202, 3) := by decide +kernel
theorem dX7_jewel_76 : decode cX7_jewel 76 = .ok (.pop, 1) := by decide +kernel
theorem dX7_jewel_77 : decode cX7_jewel 77 = .ok (.aload_n 0, 1) := by decide +kernel
theorem dX7_jewel_78 : decode cX7_jewel 78 = .ok (.getfield 19, 3) := by decide +kernel
theorem dX7_jewel_81 : decode cX7_jewel 81 = .ok (.getfield 90, 3) := by decide +kernel
theorem dX7_jewel_84 : decode cX7_jewel 84 = .ok (.iconst 1, 1) := by decide +kernel
theorem dX7_jewel_85 : decode cX7_jewel 85 = .ok (.isub, 1) := by decide +kernel
theorem dX7_jewel_86 : decode cX7_jewel 86 = .ok (.ireturn, 1) := by decide +kernel
theorem dX7_exchange_0 : decode cX7_exchange 0 = .ok (.aload_n 0, 1) := by decide +kernel
theorem dX7_exchange_1 : decode cX7_exchange 1 = .ok (.getfield 19, 3) := by decide +kernel
theorem dX7_exchange_4 : decode cX7_exchange 4 = .ok (.iload_n 1, 1) := by decide +kernel
theorem dX7_exchange_5 : decode cX7_exchange 5 = .ok (.invokevirtual 123, 3) := by decide +kernel
theorem dX7_exchange_8 : decode cX7_exchange 8 = .ok (.ifCond .eq 14, 3) := by decide +kernel
theorem dX7_exchange_11 : decode cX7_exchange 11 = .ok (.aload_n 0, 1) := by decide +kernel
theorem dX7_exchange_12 : decode cX7_exchange 12 = .ok (.getfield 19, 3) := by decide +kernel
theorem dX7_exchange_15 : decode cX7_exchange 15 = .ok (.iload_n 2, 1) := by decide +kernel
theorem dX7_exchange_16 : decode cX7_exchange 16 = .ok (.invokevirtual 123, 3) := by decide +kernel
theorem dX7_exchange_19 : decode cX7_exchange 19 = .ok (.ifCond .ne 13, 3) := by decide +kernel
theorem dX7_exchange_22 : decode cX7_exchange 22 = .ok (.new 127, 3) := by decide +kernel
theorem dX7_exchange_25 : decode cX7_exchange 25 = .ok (.dup, 1) := by decide +kernel
theorem dX7_exchange_26 : decode cX7_exchange 26 = .ok (.ldc 129, 2) := by decide +kernel
theorem dX7_exchange_28 : decode cX7_exchange 28 = .ok (.invokespecial 131, 3) := by decide +kernel
theorem dX7_exchange_31 : decode cX7_exchange 31 = .ok (.athrow, 1) := by decide +kernel
theorem dX7_exchange_32 : decode cX7_exchange 32 = .ok (.aload_n 0, 1) := by decide +kernel
theorem dX7_exchange_33 : decode cX7_exchange 33 = .ok (.getfield 29, 3) := by decide +kernel
theorem dX7_exchange_36 : decode cX7_exchange 36 = .ok (.aload_n 0, 1) := by decide +kernel
theorem dX7_exchange_37 : decode cX7_exchange 37 = .ok (.getfield 19, 3) := by decide +kernel
theorem dX7_exchange_40 : decode cX7_exchange 40 = .ok (.invokevirtual 198, 3) := by decide +kernel
theorem dX7_exchange_43 : decode cX7_exchange 43 = .ok (.aload_n 0, 1) := by decide +kernel
theorem dX7_exchange_44 : decode cX7_exchange 44 = .ok (.getfield 19, 3) := by decide +kernel
theorem dX7_exchange_47 : decode cX7_exchange 47 = .ok (.iload_n 1, 1) := by decide +kernel
theorem dX7_exchange_48 : decode cX7_exchange 48 = .ok (.iload_n 2, 1) := by decide +kernel
theorem dX7_exchange_49 : decode cX7_exchange 49 = .ok (.invokevirtual 206, 3) := by decide +kernel
theorem dX7_exchange_52 : decode cX7_exchange 52 = .ok (.pop, 1) := by decide +kernel
theorem dX7_exchange_53 : decode cX7_exchange 53 = .ok (.aload_n 0, 1) := by decide +kernel
theorem dX7_exchange_54 : decode cX7_exchange 54 = .ok (.getfield 19, 3) := by decide +kernel
theorem dX7_exchange_57 : decode cX7_exchange 57 = .ok (.invokevirtual 102, 3) := by decide +kernel
theorem dX7_exchange_60 : decode cX7_exchange 60 = .ok (.ireturn, 1) := by decide +kernel
theorem dX7_breakAt_0 : decode cX7_breakAt 0 = .ok (.aload_n 0, 1) := by decide +kernel
theorem dX7_breakAt_1 : decode cX7_breakAt 1 = .ok (.getfield 19, 3) := by decide +kernel
theorem dX7_breakAt_4 : decode cX7_breakAt 4 = .ok (.iload_n 1, 1) := by decide +kernel
theorem dX7_breakAt_5 : decode cX7_breakAt 5 = .ok (.invokevirtual 123, 3) := by decide +kernel
theorem dX7_breakAt_8 : decode cX7_breakAt 8 = .ok (.ifCond .ne 13, 3) := by decide +kernel
theorem dX7_breakAt_11 : decode cX7_breakAt 11 = .ok (.new 127, 3) := by decide +kernel
theorem dX7_breakAt_14 : decode cX7_breakAt 14 = .ok (.dup, 1) := by decide +kernel
theorem dX7_breakAt_15 : decode cX7_breakAt 15 = .ok (.ldc 129, 2) := by decide +kernel
theorem dX7_breakAt_17 : decode cX7_breakAt 17 = .ok (.invokespecial 131, 3) := by decide +kernel
theorem dX7_breakAt_20 : decode cX7_breakAt 20 = .ok (.athrow, 1) := by decide +kernel
theorem dX7_breakAt_21 : decode cX7_breakAt 21 = .ok (.aload_n 0, 1) := by decide +kernel
theorem dX7_breakAt_22 : decode cX7_breakAt 22 = .ok (.getfield 29, 3) := by decide +kernel
theorem dX7_breakAt_25 : decode cX7_breakAt 25 = .ok (.aload_n 0, 1) := by decide +kernel
theorem dX7_breakAt_26 : decode cX7_breakAt 26 = .ok (.getfield 19, 3) := by decide +kernel
theorem dX7_breakAt_29 : decode cX7_breakAt 29 = .ok (.invokevirtual 198, 3) := by decide +kernel
theorem dX7_breakAt_32 : decode cX7_breakAt 32 = .ok (.aload_n 0, 1) := by decide +kernel
theorem dX7_breakAt_33 : decode cX7_breakAt 33 = .ok (.getfield 19, 3) := by decide +kernel
theorem dX7_breakAt_36 : decode cX7_breakAt 36 = .ok (.getfield 93, 3) := by decide +kernel
theorem dX7_breakAt_39 : decode cX7_breakAt 39 = .ok (.istore_n 2, 1) := by decide +kernel
theorem dX7_breakAt_40 : decode cX7_breakAt 40 = .ok (.aload_n 0, 1) := by decide +kernel
theorem dX7_breakAt_41 : decode cX7_breakAt 41 = .ok (.getfield 19, 3) := by decide +kernel
theorem dX7_breakAt_44 : decode cX7_breakAt 44 = .ok (.iload_n 1, 1) := by decide +kernel
theorem dX7_breakAt_45 : decode cX7_breakAt 45 = .ok (.invokevirtual 209, 3) := by decide +kernel
theorem dX7_breakAt_48 : decode cX7_breakAt 48 = .ok (.pop, 1) := by decide +kernel
theorem dX7_breakAt_49 : decode cX7_breakAt 49 = .ok (.iload_n 2, 1) := by decide +kernel
theorem dX7_breakAt_50 : decode cX7_breakAt 50 = .ok (.ireturn, 1) := by decide +kernel
theorem dX7_turnRound_0 : decode cX7_turnRound 0 = .ok (.aload_n 0, 1) := by decide +kernel
theorem dX7_turnRound_1 : decode cX7_turnRound 1 = .ok (.getfield 29, 3) := by decide +kernel
theorem dX7_turnRound_4 : decode cX7_turnRound 4 = .ok (.aload_n 0, 1) := by decide +kernel
theorem dX7_turnRound_5 : decode cX7_turnRound 5 = .ok (.getfield 19, 3) := by decide +kernel
theorem dX7_turnRound_8 : decode cX7_turnRound 8 = .ok (.invokevirtual 198, 3) := by decide +kernel
theorem dX7_turnRound_11 : decode cX7_turnRound 11 = .ok (.aload_n 0, 1) := by decide +kernel
theorem dX7_turnRound_12 : decode cX7_turnRound 12 = .ok (.getfield 19, 3) := by decide +kernel
theorem dX7_turnRound_15 : decode cX7_turnRound 15 = .ok (.invokevirtual 212, 3) := by decide +kernel
theorem dX7_turnRound_18 : decode cX7_turnRound 18 = .ok (.aload_n 0, 1) := by decide +kernel
theorem dX7_turnRound_19 : decode cX7_turnRound 19 = .ok (.getfield 19, 3) := by decide +kernel
theorem dX7_turnRound_22 : decode cX7_turnRound 22 = .ok (.getfield 90, 3) := by decide +kernel
theorem dX7_turnRound_25 : decode cX7_turnRound 25 = .ok (.ireturn, 1) := by decide +kernel
theorem dX7_cut_0 : decode cX7_cut 0 = .ok (.aload_n 0, 1) := by decide +kernel
theorem dX7_cut_1 : decode cX7_cut 1 = .ok (.getfield 19, 3) := by decide +kernel
theorem dX7_cut_4 : decode cX7_cut 4 = .ok (.iload_n 1, 1) := by decide +kernel
theorem dX7_cut_5 : decode cX7_cut 5 = .ok (.invokevirtual 215, 3) := by decide +kernel
theorem dX7_cut_8 : decode cX7_cut 8 = .ok (.ifCond .ne 13, 3) := by decide +kernel
theorem dX7_cut_11 : decode cX7_cut 11 = .ok (.new 127, 3) := by decide +kernel
theorem dX7_cut_14 : decode cX7_cut 14 = .ok (.dup, 1) := by decide +kernel
theorem dX7_cut_15 : decode cX7_cut 15 = .ok (.ldc 147, 2) := by decide +kernel
theorem dX7_cut_17 : decode cX7_cut 17 = .ok (.invokespecial 131, 3) := by decide +kernel
theorem dX7_cut_20 : decode cX7_cut 20 = .ok (.athrow, 1) := by decide +kernel
theorem dX7_cut_21 : decode cX7_cut 21 = .ok (.aload_n 0, 1) := by decide +kernel
theorem dX7_cut_22 : decode cX7_cut 22 = .ok (.getfield 29, 3) := by decide +kernel
theorem dX7_cut_25 : decode cX7_cut 25 = .ok (.aload_n 0, 1) := by decide +kernel
theorem dX7_cut_26 : decode cX7_cut 26 = .ok (.getfield 19, 3) := by decide +kernel
theorem dX7_cut_29 : decode cX7_cut 29 = .ok (.invokevirtual 198, 3) := by decide +kernel
theorem dX7_cut_32 : decode cX7_cut 32 = .ok (.aload_n 0, 1) := by decide +kernel
theorem dX7_cut_33 : decode cX7_cut 33 = .ok (.getfield 19, 3) := by decide +kernel
theorem dX7_cut_36 : decode cX7_cut 36 = .ok (.iload_n 1, 1) := by decide +kernel
theorem dX7_cut_37 : decode cX7_cut 37 = .ok (.iload_n 2, 1) := by decide +kernel
theorem dX7_cut_38 : decode cX7_cut 38 = .ok (.invokevirtual 218, 3) := by decide +kernel
theorem dX7_cut_41 : decode cX7_cut 41 = .ok (.pop, 1) := by decide +kernel
theorem dX7_cut_42 : decode cX7_cut 42 = .ok (.aload_n 0, 1) := by decide +kernel
theorem dX7_cut_43 : decode cX7_cut 43 = .ok (.getfield 19, 3) := by decide +kernel
theorem dX7_cut_46 : decode cX7_cut 46 = .ok (.invokevirtual 99, 3) := by decide +kernel
theorem dX7_cut_49 : decode cX7_cut 49 = .ok (.ireturn, 1) := by decide +kernel
theorem dX7_give_0 : decode cX7_give 0 = .ok (.aload_n 0, 1) := by decide +kernel
theorem dX7_give_1 : decode cX7_give 1 = .ok (.getfield 19, 3) := by decide +kernel
theorem dX7_give_4 : decode cX7_give 4 = .ok (.iload_n 1, 1) := by decide +kernel
theorem dX7_give_5 : decode cX7_give 5 = .ok (.invokevirtual 163, 3) := by decide +kernel
theorem dX7_give_8 : decode cX7_give 8 = .ok (.ifCond .ne 13, 3) := by decide +kernel
theorem dX7_give_11 : decode cX7_give 11 = .ok (.new 127, 3) := by decide +kernel
theorem dX7_give_14 : decode cX7_give 14 = .ok (.dup, 1) := by decide +kernel
theorem dX7_give_15 : decode cX7_give 15 = .ok (.ldc 166, 2) := by decide +kernel
theorem dX7_give_17 : decode cX7_give 17 = .ok (.invokespecial 131, 3) := by decide +kernel
theorem dX7_give_20 : decode cX7_give 20 = .ok (.athrow, 1) := by decide +kernel
theorem dX7_give_21 : decode cX7_give 21 = .ok (.iload_n 2, 1) := by decide +kernel
theorem dX7_give_22 : decode cX7_give 22 = .ok (.invokestatic 222, 3) := by decide +kernel
theorem dX7_give_25 : decode cX7_give 25 = .ok (.ifCond .ne 13, 3) := by decide +kernel
theorem dX7_give_28 : decode cX7_give 28 = .ok (.new 50, 3) := by decide +kernel
theorem dX7_give_31 : decode cX7_give 31 = .ok (.dup, 1) := by decide +kernel
theorem dX7_give_32 : decode cX7_give 32 = .ok (.ldc 225, 2) := by decide +kernel
theorem dX7_give_34 : decode cX7_give 34 = .ok (.invokespecial 54, 3) := by decide +kernel
theorem dX7_give_37 : decode cX7_give 37 = .ok (.athrow, 1) := by decide +kernel
theorem dX7_give_38 : decode cX7_give 38 = .ok (.aload_n 0, 1) := by decide +kernel
theorem dX7_give_39 : decode cX7_give 39 = .ok (.getfield 29, 3) := by decide +kernel
theorem dX7_give_42 : decode cX7_give 42 = .ok (.aload_n 0, 1) := by decide +kernel
theorem dX7_give_43 : decode cX7_give 43 = .ok (.getfield 19, 3) := by decide +kernel
theorem dX7_give_46 : decode cX7_give 46 = .ok (.invokevirtual 198, 3) := by decide +kernel
theorem dX7_give_49 : decode cX7_give 49 = .ok (.aload_n 0, 1) := by decide +kernel
theorem dX7_give_50 : decode cX7_give 50 = .ok (.getfield 19, 3) := by decide +kernel
theorem dX7_give_53 : decode cX7_give 53 = .ok (.iload_n 1, 1) := by decide +kernel
theorem dX7_give_54 : decode cX7_give 54 = .ok (.iload_n 2, 1) := by decide +kernel
theorem dX7_give_55 : decode cX7_give 55 = .ok (.invokevirtual 227, 3) := by decide +kernel
theorem dX7_give_58 : decode cX7_give 58 = .ok (.pop, 1) := by decide +kernel
theorem dX7_give_59 : decode cX7_give 59 = .ok (.aload_n 0, 1) := by decide +kernel
theorem dX7_give_60 : decode cX7_give 60 = .ok (.getfield 19, 3) := by decide +kernel
theorem dX7_give_63 : decode cX7_give 63 = .ok (.invokevirtual 102, 3) := by decide +kernel
theorem dX7_give_66 : decode cX7_give 66 = .ok (.ireturn, 1) := by decide +kernel
theorem dX7_take_0 : decode cX7_take 0 = .ok (.aload_n 0, 1) := by decide +kernel
theorem dX7_take_1 : decode cX7_take 1 = .ok (.getfield 19, 3) := by decide +kernel
theorem dX7_take_4 : decode cX7_take 4 = .ok (.iload_n 1, 1) := by decide +kernel
theorem dX7_take_5 : decode cX7_take 5 = .ok (.invokevirtual 163, 3) := by decide +kernel
theorem dX7_take_8 : decode cX7_take 8 = .ok (.ifCond .ne 13, 3) := by decide +kernel
theorem dX7_take_11 : decode cX7_take 11 = .ok (.new 127, 3) := by decide +kernel
theorem dX7_take_14 : decode cX7_take 14 = .ok (.dup, 1) := by decide +kernel
theorem dX7_take_15 : decode cX7_take 15 = .ok (.ldc 166, 2) := by decide +kernel
theorem dX7_take_17 : decode cX7_take 17 = .ok (.invokespecial 131, 3) := by decide +kernel
theorem dX7_take_20 : decode cX7_take 20 = .ok (.athrow, 1) := by decide +kernel
theorem dX7_take_21 : decode cX7_take 21 = .ok (.aload_n 0, 1) := by decide +kernel
theorem dX7_take_22 : decode cX7_take 22 = .ok (.getfield 29, 3) := by decide +kernel
theorem dX7_take_25 : decode cX7_take 25 = .ok (.aload_n 0, 1) := by decide +kernel
theorem dX7_take_26 : decode cX7_take 26 = .ok (.getfield 19, 3) := by decide +kernel
theorem dX7_take_29 : decode cX7_take 29 = .ok (.invokevirtual 198, 3) := by decide +kernel
theorem dX7_take_32 : decode cX7_take 32 = .ok (.aload_n 0, 1) := by decide +kernel
theorem dX7_take_33 : decode cX7_take 33 = .ok (.getfield 19, 3) := by decide +kernel
theorem dX7_take_36 : decode cX7_take 36 = .ok (.iload_n 1, 1) := by decide +kernel
theorem dX7_take_37 : decode cX7_take 37 = .ok (.invokevirtual 230, 3) := by decide +kernel
theorem dX7_take_40 : decode cX7_take 40 = .ok (.istore_n 2, 1) := by decide +kernel
theorem dX7_take_41 : decode cX7_take 41 = .ok (.iload_n 2, 1) := by decide +kernel
theorem dX7_take_42 : decode cX7_take 42 = .ok (.ifCond .ne 15, 3) := by decide +kernel
theorem dX7_take_45 : decode cX7_take 45 = .ok (.aload_n 0, 1) := by decide +kernel
theorem dX7_take_46 : decode cX7_take 46 = .ok (.getfield 19, 3) := by decide +kernel
theorem dX7_take_49 : decode cX7_take 49 = .ok (.iload_n 1, 1) := by decide +kernel
theorem dX7_take_50 : decode cX7_take 50 = .ok (.invokevirtual 233, 3) := by decide +kernel
theorem dX7_take_53 : decode cX7_take 53 = .ok (.pop, 1) := by decide +kernel
theorem dX7_take_54 : decode cX7_take 54 = .ok (.goto 16, 3) := by decide +kernel
theorem dX7_take_57 : decode cX7_take 57 = .ok (.aload_n 0, 1) := by decide +kernel
theorem dX7_take_58 : decode cX7_take 58 = .ok (.getfield 19, 3) := by decide +kernel
theorem dX7_take_61 : decode cX7_take 61 = .ok (.dup, 1) := by decide +kernel
theorem dX7_take_62 : decode cX7_take 62 = .ok (.getfield 115, 3) := by decide +kernel
theorem dX7_take_65 : decode cX7_take 65 = .ok (.iconst 1, 1) := by decide +kernel
theorem dX7_take_66 : decode cX7_take 66 = .ok (.iadd, 1) := by decide +kernel
theorem dX7_take_67 : decode cX7_take 67 = .ok (.putfield 115, 3) := by decide +kernel
theorem dX7_take_70 : decode cX7_take 70 = .ok (.iload_n 2, 1) := by decide +kernel
theorem dX7_take_71 : decode cX7_take 71 = .ok (.ireturn, 1) := by decide +kernel
theorem dX7_deal_0 : decode cX7_deal 0 = .ok (.iload_n 1, 1) := by decide +kernel
theorem dX7_deal_1 : decode cX7_deal 1 = .ok (.invokestatic 177, 3) := by decide +kernel
theorem dX7_deal_4 : decode cX7_deal 4 = .ok (.ifCond .ne 13, 3) := by decide +kernel
theorem dX7_deal_7 : decode cX7_deal 7 = .ok (.new 127, 3) := by decide +kernel
theorem dX7_deal_10 : decode cX7_deal 10 = .ok (.dup, 1) := by decide +kernel
theorem dX7_deal_11 : decode cX7_deal 11 = .ok (.ldc 236, 2) := by decide +kernel
theorem dX7_deal_13 : decode cX7_deal 13 = .ok (.invokespecial 131, 3) := by decide +kernel
theorem dX7_deal_16 : decode cX7_deal 16 = .ok (.athrow, 1) := by decide +kernel
theorem dX7_deal_17 : decode cX7_deal 17 = .ok (.aload_n 0, 1) := by decide +kernel
theorem dX7_deal_18 : decode cX7_deal 18 = .ok (.getfield 29, 3) := by decide +kernel
theorem dX7_deal_21 : decode cX7_deal 21 = .ok (.aload_n 0, 1) := by decide +kernel
theorem dX7_deal_22 : decode cX7_deal 22 = .ok (.getfield 19, 3) := by decide +kernel
theorem dX7_deal_25 : decode cX7_deal 25 = .ok (.invokevirtual 198, 3) := by decide +kernel
theorem dX7_deal_28 : decode cX7_deal 28 = .ok (.aload_n 0, 1) := by decide +kernel
theorem dX7_deal_29 : decode cX7_deal 29 = .ok (.getfield 19, 3) := by decide +kernel
theorem dX7_deal_32 : decode cX7_deal 32 = .ok (.iload_n 1, 1) := by decide +kernel
theorem dX7_deal_33 : decode cX7_deal 33 = .ok (.invokevirtual 238, 3) := by decide +kernel
theorem dX7_deal_36 : decode cX7_deal 36 = .ok (.pop, 1) := by decide +kernel
theorem dX7_deal_37 : decode cX7_deal 37 = .ok (.aload_n 0, 1) := by decide +kernel
theorem dX7_deal_38 : decode cX7_deal 38 = .ok (.getfield 19, 3) := by decide +kernel
theorem dX7_deal_41 : decode cX7_deal 41 = .ok (.invokevirtual 102, 3) := by decide +kernel
theorem dX7_deal_44 : decode cX7_deal 44 = .ok (.ireturn, 1) := by decide +kernel
theorem dX7_divide_0 : decode cX7_divide 0 = .ok (.aload_n 0, 1) := by decide +kernel
theorem dX7_divide_1 : decode cX7_divide 1 = .ok (.invokevirtual 241, 3) := by decide +kernel
theorem dX7_divide_4 : decode cX7_divide 4 = .ok (.istore_n 1, 1) := by decide +kernel
theorem dX7_divide_5 : decode cX7_divide 5 = .ok (.iload_n 1, 1) := by decide +kernel
theorem dX7_divide_6 : decode cX7_divide 6 = .ok (.iconst (-1), 1) := by decide +kernel
theorem dX7_divide_7 : decode cX7_divide 7 = .ok (.if_icmp .ne 13, 3) := by decide +kernel
theorem dX7_divide_10 : decode cX7_divide 10 = .ok (.new 61, 3) := by decide +kernel
theorem dX7_divide_13 : decode cX7_divide 13 = .ok (.dup, 1) := by decide +kernel
theorem dX7_divide_14 : decode cX7_divide 14 = .ok (.ldc 244, 2) := by decide +kernel
theorem dX7_divide_16 : decode cX7_divide 16 = .ok (.invokespecial 65, 3) := by decide +kernel
theorem dX7_divide_19 : decode cX7_divide 19 = .ok (.athrow, 1) := by decide +kernel
theorem dX7_divide_20 : decode cX7_divide 20 = .ok (.aload_n 0, 1) := by decide +kernel
theorem dX7_divide_21 : decode cX7_divide 21 = .ok (.getfield 29, 3) := by decide +kernel
theorem dX7_divide_24 : decode cX7_divide 24 = .ok (.aload_n 0, 1) := by decide +kernel
theorem dX7_divide_25 : decode cX7_divide 25 = .ok (.getfield 19, 3) := by decide +kernel
theorem dX7_divide_28 : decode cX7_divide 28 = .ok (.invokevirtual 198, 3) := by decide +kernel
theorem dX7_divide_31 : decode cX7_divide 31 = .ok (.aload_n 0, 1) := by decide +kernel
theorem dX7_divide_32 : decode cX7_divide 32 = .ok (.getfield 19, 3) := by decide +kernel
theorem dX7_divide_35 : decode cX7_divide 35 = .ok (.invokevirtual 246, 3) := by decide +kernel
theorem dX7_divide_38 : decode cX7_divide 38 = .ok (.iconst 0, 1) := by decide +kernel
theorem dX7_divide_39 : decode cX7_divide 39 = .ok (.istore_n 2, 1) := by decide +kernel
theorem dX7_divide_40 : decode cX7_divide 40 = .ok (.iload_n 2, 1) := by decide +kernel
theorem dX7_divide_41 : decode cX7_divide 41 = .ok (.iload_n 1, 1) := by decide +kernel
theorem dX7_divide_42 : decode cX7_divide 42 = .ok (.if_icmp .ge 26, 3) := by decide +kernel
theorem dX7_divide_45 : decode cX7_divide 45 = .ok (.aload_n 0, 1) := by decide +kernel
theorem dX7_divide_46 : decode cX7_divide 46 = .ok (.getfield 19, 3) := by decide +kernel
theorem dX7_divide_49 : decode cX7_divide 49 = .ok (.aload_n 0, 1) := by decide +kernel
theorem dX7_divide_50 : decode cX7_divide 50 = .ok (.getfield 36, 3) := by decide +kernel
theorem dX7_divide_53 : decode cX7_divide 53 = .ok (.iload_n 2, 1) := by decide +kernel
theorem dX7_divide_54 : decode cX7_divide 54 = .ok (.invokevirtual 249, 3) := by decide +kernel
theorem dX7_divide_57 : decode cX7_divide 57 = .ok (.iconst 1, 1) := by decide +kernel
theorem dX7_divide_58 : decode cX7_divide 58 = .ok (.invokevirtual 218, 3) := by decide +kernel
theorem dX7_divide_61 : decode cX7_divide 61 = .ok (.pop, 1) := by decide +kernel
theorem dX7_divide_62 : decode cX7_divide 62 = .ok (.iinc 2 1, 3) := by decide +kernel
theorem dX7_divide_65 : decode cX7_divide 65 = .ok (.goto (-25), 3) := by decide +kernel
theorem dX7_divide_68 : decode cX7_divide 68 = .ok (.aload_n 0, 1) := by decide +kernel
theorem dX7_divide_69 : decode cX7_divide 69 = .ok (.getfield 19, 3) := by decide +kernel
theorem dX7_divide_72 : decode cX7_divide 72 = .ok (.iconst 0, 1) := by decide +kernel
theorem dX7_divide_73 : decode cX7_divide 73 = .ok (.invokevirtual 238, 3) := by decide +kernel
theorem dX7_divide_76 : decode cX7_divide 76 = .ok (.pop, 1) := by decide +kernel
theorem dX7_divide_77 : decode cX7_divide 77 = .ok (.iload_n 1, 1) := by decide +kernel
theorem dX7_divide_78 : decode cX7_divide 78 = .ok (.ireturn, 1) := by decide +kernel
theorem dX7_set_0 : decode cX7_set 0 = .ok (.iload_n 1, 1) := by decide +kernel
theorem dX7_set_1 : decode cX7_set 1 = .ok (.invokestatic 252, 3) := by decide +kernel
theorem dX7_set_4 : decode cX7_set 4 = .ok (.ifCond .ne 13, 3) := by decide +kernel
theorem dX7_set_7 : decode cX7_set 7 = .ok (.new 50, 3) := by decide +kernel
theorem dX7_set_10 : decode cX7_set 10 = .ok (.dup, 1) := by decide +kernel
theorem dX7_set_11 : decode cX7_set 11 = .ok (.ldc 255, 2) := by decide +kernel
theorem dX7_set_13 : decode cX7_set 13 = .ok (.invokespecial 54, 3) := by decide +kernel
theorem dX7_set_16 : decode cX7_set 16 = .ok (.athrow, 1) := by decide +kernel
theorem dX7_set_17 : decode cX7_set 17 = .ok (.aload_n 0, 1) := by decide +kernel
theorem dX7_set_18 : decode cX7_set 18 = .ok (.getfield 29, 3) := by decide +kernel
theorem dX7_set_21 : decode cX7_set 21 = .ok (.aload_n 0, 1) := by decide +kernel
theorem dX7_set_22 : decode cX7_set 22 = .ok (.getfield 19, 3) := by decide +kernel
theorem dX7_set_25 : decode cX7_set 25 = .ok (.invokevirtual 198, 3) := by decide +kernel
theorem dX7_set_28 : decode cX7_set 28 = .ok (.aload_n 0, 1) := by decide +kernel
theorem dX7_set_29 : decode cX7_set 29 = .ok (.getfield 19, 3) := by decide +kernel
theorem dX7_set_32 : decode cX7_set 32 = .ok (.getfield 118, 3) := by decide +kernel
theorem dX7_set_35 : decode cX7_set 35 = .ok (.istore_n 2, 1) := by decide +kernel
theorem dX7_set_36 : decode cX7_set 36 = .ok (.aload_n 0, 1) := by decide +kernel
theorem dX7_set_37 : decode cX7_set 37 = .ok (.getfield 19, 3) := by decide +kernel
theorem dX7_set_40 : decode cX7_set 40 = .ok (.iload_n 1, 1) := by decide +kernel
theorem dX7_set_41 : decode cX7_set 41 = .ok (.invokevirtual 257, 3) := by decide +kernel
theorem dX7_set_44 : decode cX7_set 44 = .ok (.pop, 1) := by decide +kernel
theorem dX7_set_45 : decode cX7_set 45 = .ok (.iload_n 2, 1) := by decide +kernel
theorem dX7_set_46 : decode cX7_set 46 = .ok (.ireturn, 1) := by decide +kernel
theorem dX7_undo_0 : decode cX7_undo 0 = .ok (.aload_n 0, 1) := by decide +kernel
theorem dX7_undo_1 : decode cX7_undo 1 = .ok (.getfield 29, 3) := by decide +kernel
theorem dX7_undo_4 : decode cX7_undo 4 = .ok (.getfield 260, 3) := by decide +kernel
theorem dX7_undo_7 : decode cX7_undo 7 = .ok (.ifCond .gt 14, 3) := by decide +kernel
theorem dX7_undo_10 : decode cX7_undo 10 = .ok (.new 61, 3) := by decide +kernel
theorem dX7_undo_13 : decode cX7_undo 13 = .ok (.dup, 1) := by decide +kernel
theorem dX7_undo_14 : decode cX7_undo 14 = .ok (.ldc_w 263, 3) := by decide +kernel
theorem dX7_undo_17 : decode cX7_undo 17 = .ok (.invokespecial 65, 3) := by decide +kernel
theorem dX7_undo_20 : decode cX7_undo 20 = .ok (.athrow, 1) := by decide +kernel
theorem dX7_undo_21 : decode cX7_undo 21 = .ok (.aload_n 0, 1) := by decide +kernel
theorem dX7_undo_22 : decode cX7_undo 22 = .ok (.getfield 29, 3) := by decide +kernel
theorem dX7_undo_25 : decode cX7_undo 25 = .ok (.aload_n 0, 1) := by decide +kernel
theorem dX7_undo_26 : decode cX7_undo 26 = .ok (.getfield 19, 3) := by decide +kernel
theorem dX7_undo_29 : decode cX7_undo 29 = .ok (.invokevirtual 265, 3) := by decide +kernel
theorem dX7_undo_32 : decode cX7_undo 32 = .ok (.aload_n 0, 1) := by decide +kernel
theorem dX7_undo_33 : decode cX7_undo 33 = .ok (.getfield 29, 3) := by decide +kernel
theorem dX7_undo_36 : decode cX7_undo 36 = .ok (.getfield 260, 3) := by decide +kernel
theorem dX7_undo_39 : decode cX7_undo 39 = .ok (.ireturn, 1) := by decide +kernel
theorem dX7_fewest_0 : decode cX7_fewest 0 = .ok (.iload_n 1, 1) := by decide +kernel
theorem dX7_fewest_1 : decode cX7_fewest 1 = .ok (.ifCond .ne 8, 3) := by decide +kernel
theorem dX7_fewest_4 : decode cX7_fewest 4 = .ok (.aload_n 0, 1) := by decide +kernel
theorem dX7_fewest_5 : decode cX7_fewest 5 = .ok (.invokevirtual 241, 3) := by decide +kernel
theorem dX7_fewest_8 : decode cX7_fewest 8 = .ok (.ireturn, 1) := by decide +kernel
theorem dX7_fewest_9 : decode cX7_fewest 9 = .ok (.iload_n 1, 1) := by decide +kernel
theorem dX7_fewest_10 : decode cX7_fewest 10 = .ok (.iconst 1, 1) := by decide +kernel
theorem dX7_fewest_11 : decode cX7_fewest 11 = .ok (.if_icmp .eq 14, 3) := by decide +kernel
theorem dX7_fewest_14 : decode cX7_fewest 14 = .ok (.new 50, 3) := by decide +kernel
theorem dX7_fewest_17 : decode cX7_fewest 17 = .ok (.dup, 1) := by decide +kernel
theorem dX7_fewest_18 : decode cX7_fewest 18 = .ok (.ldc_w 268, 3) := by decide +kernel
theorem dX7_fewest_21 : decode cX7_fewest 21 = .ok (.invokespecial 54, 3) := by decide +kernel
theorem dX7_fewest_24 : decode cX7_fewest 24 = .ok (.athrow, 1) := by decide +kernel
theorem dX7_fewest_25 : decode cX7_fewest 25 = .ok (.aload_n 0, 1) := by decide +kernel
theorem dX7_fewest_26 : decode cX7_fewest 26 = .ok (.getfield 36, 3) := by decide +kernel
theorem dX7_fewest_29 : decode cX7_fewest 29 = .ok (.aload_n 0, 1) := by decide +kernel
theorem dX7_fewest_30 : decode cX7_fewest 30 = .ok (.getfield 19, 3) := by decide +kernel
theorem dX7_fewest_33 : decode cX7_fewest 33 = .ok (.aload_n 0, 1) := by decide +kernel
theorem dX7_fewest_34 : decode cX7_fewest 34 = .ok (.getfield 19, 3) := by decide +kernel
theorem dX7_fewest_37 : decode cX7_fewest 37 = .ok (.getfield 93, 3) := by decide +kernel
theorem dX7_fewest_40 : decode cX7_fewest 40 = .ok (.invokevirtual 270, 3) := by decide +kernel
theorem dX7_fewest_43 : decode cX7_fewest 43 = .ok (.aload_n 0, 1) := by decide +kernel
theorem dX7_fewest_44 : decode cX7_fewest 44 = .ok (.getfield 36, 3) := by decide +kernel
theorem dX7_fewest_47 : decode cX7_fewest 47 = .ok (.invokevirtual 274, 3) := by decide +kernel
theorem dX7_fewest_50 : decode cX7_fewest 50 = .ok (.ireturn, 1) := by decide +kernel
theorem dX7_divided_0 : decode cX7_divided 0 = .ok (.iload_n 1, 1) := by decide +kernel
theorem dX7_divided_1 : decode cX7_divided 1 = .ok (.ifCond .ge 14, 3) := by decide +kernel
theorem dX7_divided_4 : decode cX7_divided 4 = .ok (.new 50, 3) := by decide +kernel
theorem dX7_divided_7 : decode cX7_divided 7 = .ok (.dup, 1) := by decide +kernel
theorem dX7_divided_8 : decode cX7_divided 8 = .ok (.ldc_w 277, 3) := by decide +kernel
theorem dX7_divided_11 : decode cX7_divided 11 = .ok (.invokespecial 54, 3) := by decide +kernel
theorem dX7_divided_14 : decode cX7_divided 14 = .ok (.athrow, 1) := by decide +kernel
theorem dX7_divided_15 : decode cX7_divided 15 = .ok (.iload_n 1, 1) := by decide +kernel
theorem dX7_divided_16 : decode cX7_divided 16 = .ok (.aload_n 0, 1) := by decide +kernel
theorem dX7_divided_17 : decode cX7_divided 17 = .ok (.invokevirtual 241, 3) := by decide +kernel
theorem dX7_divided_20 : decode cX7_divided 20 = .ok (.if_icmp .ge 14, 3) := by decide +kernel
theorem dX7_divided_23 : decode cX7_divided 23 = .ok (.aload_n 0, 1) := by decide +kernel
theorem dX7_divided_24 : decode cX7_divided 24 = .ok (.getfield 36, 3) := by decide +kernel
theorem dX7_divided_27 : decode cX7_divided 27 = .ok (.iload_n 1, 1) := by decide +kernel
theorem dX7_divided_28 : decode cX7_divided 28 = .ok (.invokevirtual 249, 3) := by decide +kernel
theorem dX7_divided_31 : decode cX7_divided 31 = .ok (.goto 4, 3) := by decide +kernel
theorem dX7_divided_34 : decode cX7_divided 34 = .ok (.iconst (-1), 1) := by decide +kernel
theorem dX7_divided_35 : decode cX7_divided 35 = .ok (.ireturn, 1) := by decide +kernel
theorem dX7_leastGap_0 : decode cX7_leastGap 0 = .ok (.iload_n 1, 1) := by decide +kernel
theorem dX7_leastGap_1 : decode cX7_leastGap 1 = .ok (.ifCond .lt 8, 3) := by decide +kernel
theorem dX7_leastGap_4 : decode cX7_leastGap 4 = .ok (.iload_n 1, 1) := by decide +kernel
theorem dX7_leastGap_5 : decode cX7_leastGap 5 = .ok (.iconst 4, 1) := by decide +kernel
theorem dX7_leastGap_6 : decode cX7_leastGap 6 = .ok (.if_icmp .le 14, 3) := by decide +kernel
theorem dX7_leastGap_9 : decode cX7_leastGap 9 = .ok (.new 50, 3) := by decide +kernel
theorem dX7_leastGap_12 : decode cX7_leastGap 12 = .ok (.dup, 1) := by decide +kernel
theorem dX7_leastGap_13 : decode cX7_leastGap 13 = .ok (.ldc_w 279, 3) := by decide +kernel
theorem dX7_leastGap_16 : decode cX7_leastGap 16 = .ok (.invokespecial 54, 3) := by decide +kernel
theorem dX7_leastGap_19 : decode cX7_leastGap 19 = .ok (.athrow, 1) := by decide +kernel
theorem dX7_leastGap_20 : decode cX7_leastGap 20 = .ok (.aload_n 0, 1) := by decide +kernel
theorem dX7_leastGap_21 : decode cX7_leastGap 21 = .ok (.getfield 36, 3) := by decide +kernel
theorem dX7_leastGap_24 : decode cX7_leastGap 24 = .ok (.aload_n 0, 1) := by decide +kernel
theorem dX7_leastGap_25 : decode cX7_leastGap 25 = .ok (.getfield 19, 3) := by decide +kernel
theorem dX7_leastGap_28 : decode cX7_leastGap 28 = .ok (.aload_n 0, 1) := by decide +kernel
theorem dX7_leastGap_29 : decode cX7_leastGap 29 = .ok (.getfield 19, 3) := by decide +kernel
theorem dX7_leastGap_32 : decode cX7_leastGap 32 = .ok (.getfield 93, 3) := by decide +kernel
theorem dX7_leastGap_35 : decode cX7_leastGap 35 = .ok (.invokevirtual 270, 3) := by decide +kernel
theorem dX7_leastGap_38 : decode cX7_leastGap 38 = .ok (.aload_n 0, 1) := by decide +kernel
theorem dX7_leastGap_39 : decode cX7_leastGap 39 = .ok (.getfield 36, 3) := by decide +kernel
theorem dX7_leastGap_42 : decode cX7_leastGap 42 = .ok (.iload_n 1, 1) := by decide +kernel
theorem dX7_leastGap_43 : decode cX7_leastGap 43 = .ok (.invokevirtual 281, 3) := by decide +kernel
theorem dX7_leastGap_46 : decode cX7_leastGap 46 = .ok (.ireturn, 1) := by decide +kernel
theorem dX7_bestBreak_0 : decode cX7_bestBreak 0 = .ok (.iconst (-1), 1) := by decide +kernel
theorem dX7_bestBreak_1 : decode cX7_bestBreak 1 = .ok (.istore_n 1, 1) := by decide +kernel
theorem dX7_bestBreak_2 : decode cX7_bestBreak 2 = .ok (.bipush 6, 2) := by decide +kernel
theorem dX7_bestBreak_4 : decode cX7_bestBreak 4 = .ok (.istore_n 2, 1) := by decide +kernel
theorem dX7_bestBreak_5 : decode cX7_bestBreak 5 = .ok (.iconst 0, 1) := by decide +kernel
theorem dX7_bestBreak_6 : decode cX7_bestBreak 6 = .ok (.istore_n 3, 1) := by decide +kernel
theorem dX7_bestBreak_7 : decode cX7_bestBreak 7 = .ok (.iload_n 3, 1) := by decide +kernel
theorem dX7_bestBreak_8 : decode cX7_bestBreak 8 = .ok (.aload_n 0, 1) := by decide +kernel
theorem dX7_bestBreak_9 : decode cX7_bestBreak 9 = .ok (.getfield 19, 3) := by decide +kernel
theorem dX7_bestBreak_12 : decode cX7_bestBreak 12 = .ok (.getfield 90, 3) := by decide +kernel
theorem dX7_bestBreak_15 : decode cX7_bestBreak 15 = .ok (.if_icmp .ge 44, 3) := by decide +kernel
theorem dX7_bestBreak_18 : decode cX7_bestBreak 18 = .ok (.aload_n 0, 1) := by decide +kernel
theorem dX7_bestBreak_19 : decode cX7_bestBreak 19 = .ok (.getfield 36, 3) := by decide +kernel
theorem dX7_bestBreak_22 : decode cX7_bestBreak 22 = .ok (.aload_n 0, 1) := by decide +kernel
theorem dX7_bestBreak_23 : decode cX7_bestBreak 23 = .ok (.getfield 19, 3) := by decide +kernel
theorem dX7_bestBreak_26 : decode cX7_bestBreak 26 = .ok (.iload_n 3, 1) := by decide +kernel
theorem dX7_bestBreak_27 : decode cX7_bestBreak 27 = .ok (.invokevirtual 270, 3) := by decide +kernel
theorem dX7_bestBreak_30 : decode cX7_bestBreak 30 = .ok (.aload_n 0, 1) := by decide +kernel
theorem dX7_bestBreak_31 : decode cX7_bestBreak 31 = .ok (.getfield 36, 3) := by decide +kernel
theorem dX7_bestBreak_34 : decode cX7_bestBreak 34 = .ok (.iload_n 2, 1) := by decide +kernel
theorem dX7_bestBreak_35 : decode cX7_bestBreak 35 = .ok (.invokevirtual 284, 3) := by decide +kernel
theorem dX7_bestBreak_38 : decode cX7_bestBreak 38 = .ok (.istore 4, 2) := by decide +kernel
theorem dX7_bestBreak_40 : decode cX7_bestBreak 40 = .ok (.iload 4, 2) := by decide +kernel
theorem dX7_bestBreak_42 : decode cX7_bestBreak 42 = .ok (.iconst (-1), 1) := by decide +kernel
theorem dX7_bestBreak_43 : decode cX7_bestBreak 43 = .ok (.if_icmp .eq 10, 3) := by decide +kernel
theorem dX7_bestBreak_46 : decode cX7_bestBreak 46 = .ok (.iload_n 3, 1) := by decide +kernel
theorem dX7_bestBreak_47 : decode cX7_bestBreak 47 = .ok (.istore_n 1, 1) := by decide +kernel
theorem dX7_bestBreak_48 : decode cX7_bestBreak 48 = .ok (.iload 4, 2) := by decide +kernel
theorem dX7_bestBreak_50 : decode cX7_bestBreak 50 = .ok (.iconst 1, 1) := by decide +kernel
theorem dX7_bestBreak_51 : decode cX7_bestBreak 51 = .ok (.isub, 1) := by decide +kernel
theorem dX7_bestBreak_52 : decode cX7_bestBreak 52 = .ok (.istore_n 2, 1) := by decide +kernel
theorem dX7_bestBreak_53 : decode cX7_bestBreak 53 = .ok (.iinc 3 1, 3) := by decide +kernel
theorem dX7_bestBreak_56 : decode cX7_bestBreak 56 = .ok (.goto (-49), 3) := by decide +kernel
theorem dX7_bestBreak_59 : decode cX7_bestBreak 59 = .ok (.iload_n 1, 1) := by decide +kernel
theorem dX7_bestBreak_60 : decode cX7_bestBreak 60 = .ok (.ireturn, 1) := by decide +kernel
theorem dX7_bestRun_0 : decode cX7_bestRun 0 = .ok (.iconst (-1), 1) := by decide +kernel
theorem dX7_bestRun_1 : decode cX7_bestRun 1 = .ok (.istore_n 1, 1) := by decide +kernel
theorem dX7_bestRun_2 : decode cX7_bestRun 2 = .ok (.iconst 0, 1) := by decide +kernel
theorem dX7_bestRun_3 : decode cX7_bestRun 3 = .ok (.istore_n 2, 1) := by decide +kernel
theorem dX7_bestRun_4 : decode cX7_bestRun 4 = .ok (.iconst 0, 1) := by decide +kernel
theorem dX7_bestRun_5 : decode cX7_bestRun 5 = .ok (.istore_n 3, 1) := by decide +kernel
theorem dX7_bestRun_6 : decode cX7_bestRun 6 = .ok (.iload_n 3, 1) := by decide +kernel
theorem dX7_bestRun_7 : decode cX7_bestRun 7 = .ok (.aload_n 0, 1) := by decide +kernel
theorem dX7_bestRun_8 : decode cX7_bestRun 8 = .ok (.getfield 19, 3) := by decide +kernel
theorem dX7_bestRun_11 : decode cX7_bestRun 11 = .ok (.invokevirtual 99, 3) := by decide +kernel
theorem dX7_bestRun_14 : decode cX7_bestRun 14 = .ok (.if_icmp .ge 50, 3) := by decide +kernel
theorem dX7_bestRun_17 : decode cX7_bestRun 17 = .ok (.aload_n 0, 1) := by decide +kernel
theorem dX7_bestRun_18 : decode cX7_bestRun 18 = .ok (.getfield 19, 3) := by decide +kernel
theorem dX7_bestRun_21 : decode cX7_bestRun 21 = .ok (.iload_n 3, 1) := by decide +kernel
theorem dX7_bestRun_22 : decode cX7_bestRun 22 = .ok (.invokevirtual 230, 3) := by decide +kernel
theorem dX7_bestRun_25 : decode cX7_bestRun 25 = .ok (.ifCond .ne 33, 3) := by decide +kernel
theorem dX7_bestRun_28 : decode cX7_bestRun 28 = .ok (.aload_n 0, 1) := by decide +kernel
theorem dX7_bestRun_29 : decode cX7_bestRun 29 = .ok (.iload_n 3, 1) := by decide +kernel
theorem dX7_bestRun_30 : decode cX7_bestRun 30 = .ok (.aload_n 0, 1) := by decide +kernel
theorem dX7_bestRun_31 : decode cX7_bestRun 31 = .ok (.getfield 19, 3) := by decide +kernel
theorem dX7_bestRun_34 : decode cX7_bestRun 34 = .ok (.getfield 109, 3) := by decide +kernel
theorem dX7_bestRun_37 : decode cX7_bestRun 37 = .ok (.invokevirtual 287, 3) := by decide +kernel
theorem dX7_bestRun_40 : decode cX7_bestRun 40 = .ok (.istore 4, 2) := by decide +kernel
theorem dX7_bestRun_42 : decode cX7_bestRun 42 = .ok (.iload_n 1, 1) := by decide +kernel
theorem dX7_bestRun_43 : decode cX7_bestRun 43 = .ok (.iconst (-1), 1) := by decide +kernel
theorem dX7_bestRun_44 : decode cX7_bestRun 44 = .ok (.if_icmp .eq 9, 3) := by decide +kernel
theorem dX7_bestRun_47 : decode cX7_bestRun 47 = .ok (.iload 4, 2) := by decide +kernel
theorem dX7_bestRun_49 : decode cX7_bestRun 49 = .ok (.iload_n 2, 1) := by decide +kernel
theorem dX7_bestRun_50 : decode cX7_bestRun 50 = .ok (.if_icmp .ge 8, 3) := by decide +kernel
theorem dX7_bestRun_53 : decode cX7_bestRun 53 = .ok (.iload 4, 2) := by decide +kernel
theorem dX7_bestRun_55 : decode cX7_bestRun 55 = .ok (.istore_n 2, 1) := by decide +kernel
theorem dX7_bestRun_56 : decode cX7_bestRun 56 = .ok (.iload_n 3, 1) := by decide +kernel
theorem dX7_bestRun_57 : decode cX7_bestRun 57 = .ok (.istore_n 1, 1) := by decide +kernel
theorem dX7_bestRun_58 : decode cX7_bestRun 58 = .ok (.iinc 3 1, 3) := by decide +kernel
theorem dX7_bestRun_61 : decode cX7_bestRun 61 = .ok (.goto (-55), 3) := by decide +kernel
theorem dX7_bestRun_64 : decode cX7_bestRun 64 = .ok (.iload_n 1, 1) := by decide +kernel
theorem dX7_bestRun_65 : decode cX7_bestRun 65 = .ok (.ireturn, 1) := by decide +kernel
theorem dX7_ifGiven_0 : decode cX7_ifGiven 0 = .ok (.aload_n 0, 1) := by decide +kernel
theorem dX7_ifGiven_1 : decode cX7_ifGiven 1 = .ok (.getfield 19, 3) := by decide +kernel
theorem dX7_ifGiven_4 : decode cX7_ifGiven 4 = .ok (.iload_n 1, 1) := by decide +kernel
theorem dX7_ifGiven_5 : decode cX7_ifGiven 5 = .ok (.invokevirtual 163, 3) := by decide +kernel
theorem dX7_ifGiven_8 : decode cX7_ifGiven 8 = .ok (.ifCond .ne 13, 3) := by decide +kernel
theorem dX7_ifGiven_11 : decode cX7_ifGiven 11 = .ok (.new 127, 3) := by decide +kernel
theorem dX7_ifGiven_14 : decode cX7_ifGiven 14 = .ok (.dup, 1) := by decide +kernel
theorem dX7_ifGiven_15 : decode cX7_ifGiven 15 = .ok (.ldc 166, 2) := by decide +kernel
theorem dX7_ifGiven_17 : decode cX7_ifGiven 17 = .ok (.invokespecial 131, 3) := by decide +kernel
theorem dX7_ifGiven_20 : decode cX7_ifGiven 20 = .ok (.athrow, 1) := by decide +kernel
theorem dX7_ifGiven_21 : decode cX7_ifGiven 21 = .ok (.iload_n 2, 1) := by decide +kernel
theorem dX7_ifGiven_22 : decode cX7_ifGiven 22 = .ok (.invokestatic 222, 3) := by decide +kernel
theorem dX7_ifGiven_25 : decode cX7_ifGiven 25 = .ok (.ifCond .ne 13, 3) := by decide +kernel
theorem dX7_ifGiven_28 : decode cX7_ifGiven 28 = .ok (.new 50, 3) := by decide +kernel
theorem dX7_ifGiven_31 : decode cX7_ifGiven 31 = .ok (.dup, 1) := by decide +kernel
theorem dX7_ifGiven_32 : decode cX7_ifGiven 32 = .ok (.ldc 225, 2) := by decide +kernel
theorem dX7_ifGiven_34 : decode cX7_ifGiven 34 = .ok (.invokespecial 54, 3) := by decide +kernel
theorem dX7_ifGiven_37 : decode cX7_ifGiven 37 = .ok (.athrow, 1) := by decide +kernel
theorem dX7_ifGiven_38 : decode cX7_ifGiven 38 = .ok (.aload_n 0, 1) := by decide +kernel
theorem dX7_ifGiven_39 : decode cX7_ifGiven 39 = .ok (.iload_n 1, 1) := by decide +kernel
theorem dX7_ifGiven_40 : decode cX7_ifGiven 40 = .ok (.iload_n 2, 1) := by decide +kernel
theorem dX7_ifGiven_41 : decode cX7_ifGiven 41 = .ok (.invokevirtual 287, 3) := by decide +kernel
theorem dX7_ifGiven_44 : decode cX7_ifGiven 44 = .ok (.ireturn, 1) := by decide +kernel
theorem dX7_runScript_0 : decode cX7_runScript 0 = .ok (.iload_n 1, 1) := by decide +kernel
theorem dX7_runScript_1 : decode cX7_runScript 1 = .ok (.iconst 1, 1) := by decide +kernel
theorem dX7_runScript_2 : decode cX7_runScript 2 = .ok (.if_icmp .lt 8, 3) := by decide +kernel
theorem dX7_runScript_5 : decode cX7_runScript 5 = .ok (.iload_n 1, 1) := by decide +kernel
theorem dX7_runScript_6 : decode cX7_runScript 6 = .ok (.iconst 3, 1) := by decide +kernel
theorem dX7_runScript_7 : decode cX7_runScript 7 = .ok (.if_icmp .le 14, 3) := by decide +kernel
theorem dX7_runScript_10 : decode cX7_runScript 10 = .ok (.new 50, 3) := by decide +kernel
theorem dX7_runScript_13 : decode cX7_runScript 13 = .ok (.dup, 1) := by decide +kernel
theorem dX7_runScript_14 : decode cX7_runScript 14 = .ok (.ldc_w 290, 3) := by decide +kernel
theorem dX7_runScript_17 : decode cX7_runScript 17 = .ok (.invokespecial 54, 3) := by decide +kernel
theorem dX7_runScript_20 : decode cX7_runScript 20 = .ok (.athrow, 1) := by decide +kernel
theorem dX7_runScript_21 : decode cX7_runScript 21 = .ok (.lload_n 2, 1) := by decide +kernel
theorem dX7_runScript_22 : decode cX7_runScript 22 = .ok (.lconst 0, 1) := by decide +kernel
theorem dX7_runScript_23 : decode cX7_runScript 23 = .ok (.lcmp, 1) := by decide +kernel
theorem dX7_runScript_24 : decode cX7_runScript 24 = .ok (.ifCond .lt 13, 3) := by decide +kernel
theorem dX7_runScript_27 : decode cX7_runScript 27 = .ok (.lload_n 2, 1) := by decide +kernel
theorem dX7_runScript_28 : decode cX7_runScript 28 = .ok (.iload_n 1, 1) := by decide +kernel
theorem dX7_runScript_29 : decode cX7_runScript 29 = .ok (.invokestatic 292, 3) := by decide +kernel
theorem dX7_runScript_32 : decode cX7_runScript 32 = .ok (.lconst 0, 1) := by decide +kernel
theorem dX7_runScript_33 : decode cX7_runScript 33 = .ok (.lcmp, 1) := by decide +kernel
theorem dX7_runScript_34 : decode cX7_runScript 34 = .ok (.ifCond .eq 14, 3) := by decide +kernel
theorem dX7_runScript_37 : decode cX7_runScript 37 = .ok (.new 50, 3) := by decide +kernel
theorem dX7_runScript_40 : decode cX7_runScript 40 = .ok (.dup, 1) := by decide +kernel
theorem dX7_runScript_41 : decode cX7_runScript 41 = .ok (.ldc_w 298, 3) := by decide +kernel
theorem dX7_runScript_44 : decode cX7_runScript 44 = .ok (.invokespecial 54, 3) := by decide +kernel
theorem dX7_runScript_47 : decode cX7_runScript 47 = .ok (.athrow, 1) := by decide +kernel
theorem dX7_runScript_48 : decode cX7_runScript 48 = .ok (.aload_n 0, 1) := by decide +kernel
theorem dX7_runScript_49 : decode cX7_runScript 49 = .ok (.getfield 23, 3) := by decide +kernel
theorem dX7_runScript_52 : decode cX7_runScript 52 = .ok (.aload_n 0, 1) := by decide +kernel
theorem dX7_runScript_53 : decode cX7_runScript 53 = .ok (.getfield 19, 3) := by decide +kernel
theorem dX7_runScript_56 : decode cX7_runScript 56 = .ok (.invokevirtual 300, 3) := by decide +kernel
theorem dX7_runScript_59 : decode cX7_runScript 59 = .ok (.iconst 0, 1) := by decide +kernel
theorem dX7_runScript_60 : decode cX7_runScript 60 = .ok (.istore 4, 2) := by decide +kernel
theorem dX7_runScript_62 : decode cX7_runScript 62 = .ok (.iload 4, 2) := by decide +kernel
theorem dX7_runScript_64 : decode cX7_runScript 64 = .ok (.iload_n 1, 1) := by decide +kernel
theorem dX7_runScript_65 : decode cX7_runScript 65 = .ok (.if_icmp .ge 45, 3) := by decide +kernel
theorem dX7_runScript_68 : decode cX7_runScript 68 = .ok (.lload_n 2, 1) := by decide +kernel
theorem dX7_runScript_69 : decode cX7_runScript 69 = .ok (.iload_n 1, 1) := by decide +kernel
theorem dX7_runScript_70 : decode cX7_runScript 70 = .ok (.iconst 1, 1) := by decide +kernel
theorem dX7_runScript_71 : decode cX7_runScript 71 = .ok (.isub, 1) := by decide +kernel
theorem dX7_runScript_72 : decode cX7_runScript 72 = .ok (.iload 4, 2) := by decide +kernel
theorem dX7_runScript_74 : decode cX7_runScript 74 = .ok (.isub, 1) := by decide +kernel
theorem dX7_runScript_75 : decode cX7_runScript 75 = .ok (.invokestatic 292, 3) := by decide +kernel
theorem dX7_runScript_78 : decode cX7_runScript 78 = .ok (.ldc2_w 303, 3) := by decide +kernel
theorem dX7_runScript_81 : decode cX7_runScript 81 = .ok (.lrem, 1) := by decide +kernel
theorem dX7_runScript_82 : decode cX7_runScript 82 = .ok (.l2i, 1) := by decide +kernel
theorem dX7_runScript_83 : decode cX7_runScript 83 = .ok (.istore 5, 2) := by decide +kernel
theorem dX7_runScript_85 : decode cX7_runScript 85 = .ok (.iload 5, 2) := by decide +kernel
theorem dX7_runScript_87 : decode cX7_runScript 87 = .ok (.aload_n 0, 1) := by decide +kernel
theorem dX7_runScript_88 : decode cX7_runScript 88 = .ok (.getfield 23, 3) := by decide +kernel
theorem dX7_runScript_91 : decode cX7_runScript 91 = .ok (.aload_n 0, 1) := by decide +kernel
theorem dX7_runScript_92 : decode cX7_runScript 92 = .ok (.getfield 36, 3) := by decide +kernel
theorem dX7_runScript_95 : decode cX7_runScript 95 = .ok (.invokestatic 305, 3) := by decide +kernel
theorem dX7_runScript_98 : decode cX7_runScript 98 = .ok (.ifCond .ne 6, 3) := by decide +kernel
theorem dX7_runScript_101 : decode cX7_runScript 101 = .ok (.iload 4, 2) := by decide +kernel
theorem dX7_runScript_103 : decode cX7_runScript 103 = .ok (.ireturn, 1) := by decide +kernel
theorem dX7_runScript_104 : decode cX7_runScript 104 = .ok (.iinc 4 1, 3) := by decide +kernel
theorem dX7_runScript_107 : decode cX7_runScript 107 = .ok (.goto (-45), 3) := by decide +kernel
theorem dX7_runScript_110 : decode cX7_runScript 110 = .ok (.iconst (-1), 1) := by decide +kernel
theorem dX7_runScript_111 : decode cX7_runScript 111 = .ok (.ireturn, 1) := by decide +kernel
theorem dX7_simulate_0 : decode cX7_simulate 0 = .ok (.iload_n 3, 1) := by decide +kernel
theorem dX7_simulate_1 : decode cX7_simulate 1 = .ok (.iconst 1, 1) := by decide +kernel
theorem dX7_simulate_2 : decode cX7_simulate 2 = .ok (.if_icmp .lt 9, 3) := by decide +kernel
theorem dX7_simulate_5 : decode cX7_simulate 5 = .ok (.iload_n 3, 1) := by decide +kernel
theorem dX7_simulate_6 : decode cX7_simulate 6 = .ok (.bipush 60, 2) := by decide +kernel
theorem dX7_simulate_8 : decode cX7_simulate 8 = .ok (.if_icmp .le 14, 3) := by decide +kernel
theorem dX7_simulate_11 : decode cX7_simulate 11 = .ok (.new 50, 3) := by decide +kernel
theorem dX7_simulate_14 : decode cX7_simulate 14 = .ok (.dup, 1) := by decide +kernel
theorem dX7_simulate_15 : decode cX7_simulate 15 = .ok (.ldc_w 309, 3) := by decide +kernel
theorem dX7_simulate_18 : decode cX7_simulate 18 = .ok (.invokespecial 54, 3) := by decide +kernel
theorem dX7_simulate_21 : decode cX7_simulate 21 = .ok (.athrow, 1) := by decide +kernel
theorem dX7_simulate_22 : decode cX7_simulate 22 = .ok (.aload_n 0, 1) := by decide +kernel
theorem dX7_simulate_23 : decode cX7_simulate 23 = .ok (.getfield 23, 3) := by decide +kernel
theorem dX7_simulate_26 : decode cX7_simulate 26 = .ok (.aload_n 0, 1) := by decide +kernel
theorem dX7_simulate_27 : decode cX7_simulate 27 = .ok (.getfield 19, 3) := by decide +kernel
theorem dX7_simulate_30 : decode cX7_simulate 30 = .ok (.invokevirtual 300, 3) := by decide +kernel
theorem dX7_simulate_33 : decode cX7_simulate 33 = .ok (.lload_n 1, 1) := by decide +kernel
theorem dX7_simulate_34 : decode cX7_simulate 34 = .ok (.iload_n 3, 1) := by decide +kernel
theorem dX7_simulate_35 : decode cX7_simulate 35 = .ok (.aload_n 0, 1) := by decide +kernel
theorem dX7_simulate_36 : decode cX7_simulate 36 = .ok (.getfield 23, 3) := by decide +kernel
theorem dX7_simulate_39 : decode cX7_simulate 39 = .ok (.invokestatic 311, 3) := by decide +kernel
theorem dX7_simulate_42 : decode cX7_simulate 42 = .ok (.sipush 10000, 3) := by decide +kernel
theorem dX7_simulate_45 : decode cX7_simulate 45 = .ok (.aload_n 0, 1) := by decide +kernel
theorem dX7_simulate_46 : decode cX7_simulate 46 = .ok (.getfield 23, 3) := by decide +kernel
theorem dX7_simulate_49 : decode cX7_simulate 49 = .ok (.getfield 90, 3) := by decide +kernel
theorem dX7_simulate_52 : decode cX7_simulate 52 = .ok (.imul, 1) := by decide +kernel
theorem dX7_simulate_53 : decode cX7_simulate 53 = .ok (.bipush 100, 2) := by decide +kernel
theorem dX7_simulate_55 : decode cX7_simulate 55 = .ok (.aload_n 0, 1) := by decide +kernel
theorem dX7_simulate_56 : decode cX7_simulate 56 = .ok (.getfield 23, 3) := by decide +kernel
theorem dX7_simulate_59 : decode cX7_simulate 59 = .ok (.invokevirtual 99, 3) := by decide +kernel
theorem dX7_simulate_62 : decode cX7_simulate 62 = .ok (.imul, 1) := by decide +kernel
theorem dX7_simulate_63 : decode cX7_simulate 63 = .ok (.iadd, 1) := by decide +kernel
theorem dX7_simulate_64 : decode cX7_simulate 64 = .ok (.aload_n 0, 1) := by decide +kernel
theorem dX7_simulate_65 : decode cX7_simulate 65 = .ok (.getfield 23, 3) := by decide +kernel
theorem dX7_simulate_68 : decode cX7_simulate 68 = .ok (.invokevirtual 102, 3) := by decide +kernel
theorem dX7_simulate_71 : decode cX7_simulate 71 = .ok (.bipush 99, 2) := by decide +kernel
theorem dX7_simulate_73 : decode cX7_simulate 73 = .ok (.invokestatic 317, 3) := by decide +kernel
theorem dX7_simulate_76 : decode cX7_simulate 76 = .ok (.iadd, 1) := by decide +kernel
theorem dX7_simulate_77 : decode cX7_simulate 77 = .ok (.ireturn, 1) := by decide +kernel
theorem dX7_save_0 : decode cX7_save 0 = .ok (.iload_n 1, 1) := by decide +kernel
theorem dX7_save_1 : decode cX7_save 1 = .ok (.ifCond .lt 8, 3) := by decide +kernel
theorem dX7_save_4 : decode cX7_save 4 = .ok (.iload_n 1, 1) := by decide +kernel
theorem dX7_save_5 : decode cX7_save 5 = .ok (.iconst 1, 1) := by decide +kernel
theorem dX7_save_6 : decode cX7_save 6 = .ok (.if_icmp .le 14, 3) := by decide +kernel
theorem dX7_save_9 : decode cX7_save 9 = .ok (.new 127, 3) := by decide +kernel
theorem dX7_save_12 : decode cX7_save 12 = .ok (.dup, 1) := by decide +kernel
theorem dX7_save_13 : decode cX7_save 13 = .ok (.ldc_w 322, 3) := by decide +kernel
theorem dX7_save_16 : decode cX7_save 16 = .ok (.invokespecial 131, 3) := by decide +kernel
theorem dX7_save_19 : decode cX7_save 19 = .ok (.athrow, 1) := by decide +kernel
theorem dX7_save_20 : decode cX7_save 20 = .ok (.iload_n 1, 1) := by decide +kernel
theorem dX7_save_21 : decode cX7_save 21 = .ok (.ifCond .ne 10, 3) := by decide +kernel
theorem dX7_save_24 : decode cX7_save 24 = .ok (.aload_n 0, 1) := by decide +kernel
theorem dX7_save_25 : decode cX7_save 25 = .ok (.getfield 43, 3) := by decide +kernel
theorem dX7_save_28 : decode cX7_save 28 = .ok (.goto 7, 3) := by decide +kernel
theorem dX7_save_31 : decode cX7_save 31 = .ok (.aload_n 0, 1) := by decide +kernel
theorem dX7_save_32 : decode cX7_save 32 = .ok (.getfield 47, 3) := by decide +kernel
theorem dX7_save_35 : decode cX7_save 35 = .ok (.astore_n 2, 1) := by decide +kernel
theorem dX7_save_36 : decode cX7_save 36 = .ok (.aload_n 2, 1) := by decide +kernel
theorem dX7_save_37 : decode cX7_save 37 = .ok (.getfield 324, 3) := by decide +kernel
theorem dX7_save_40 : decode cX7_save 40 = .ok (.aload_n 0, 1) := by decide +kernel
theorem dX7_save_41 : decode cX7_save 41 = .ok (.getfield 19, 3) := by decide +kernel
theorem dX7_save_44 : decode cX7_save 44 = .ok (.invokevirtual 300, 3) := by decide +kernel
theorem dX7_save_47 : decode cX7_save 47 = .ok (.aload_n 2, 1) := by decide +kernel
theorem dX7_save_48 : decode cX7_save 48 = .ok (.iconst 1, 1) := by decide +kernel
theorem dX7_save_49 : decode cX7_save 49 = .ok (.putfield 82, 3) := by decide +kernel
theorem dX7_save_52 : decode cX7_save 52 = .ok (.aload_n 0, 1) := by decide +kernel
theorem dX7_save_53 : decode cX7_save 53 = .ok (.getfield 19, 3) := by decide +kernel
theorem dX7_save_56 : decode cX7_save 56 = .ok (.getfield 90, 3) := by decide +kernel
theorem dX7_save_59 : decode cX7_save 59 = .ok (.ireturn, 1) := by decide +kernel
theorem dX7_restore_0 : decode cX7_restore 0 = .ok (.iload_n 1, 1) := by decide +kernel
theorem dX7_restore_1 : decode cX7_restore 1 = .ok (.ifCond .lt 8, 3) := by decide +kernel
theorem dX7_restore_4 : decode cX7_restore 4 = .ok (.iload_n 1, 1) := by decide +kernel
theorem dX7_restore_5 : decode cX7_restore 5 = .ok (.iconst 1, 1) := by decide +kernel
theorem dX7_restore_6 : decode cX7_restore 6 = .ok (.if_icmp .le 14, 3) := by decide +kernel
theorem dX7_restore_9 : decode cX7_restore 9 = .ok (.new 127, 3) := by decide +kernel
theorem dX7_restore_12 : decode cX7_restore 12 = .ok (.dup, 1) := by decide +kernel
theorem dX7_restore_13 : decode cX7_restore 13 = .ok (.ldc_w 322, 3) := by decide +kernel
theorem dX7_restore_16 : decode cX7_restore 16 = .ok (.invokespecial 131, 3) := by decide +kernel
theorem dX7_restore_19 : decode cX7_restore 19 = .ok (.athrow, 1) := by decide +kernel
theorem dX7_restore_20 : decode cX7_restore 20 = .ok (.iload_n 1, 1) := by decide +kernel
theorem dX7_restore_21 : decode cX7_restore 21 = .ok (.ifCond .ne 10, 3) := by decide +kernel
theorem dX7_restore_24 : decode cX7_restore 24 = .ok (.aload_n 0, 1) := by decide +kernel
theorem dX7_restore_25 : decode cX7_restore 25 = .ok (.getfield 43, 3) := by decide +kernel
theorem dX7_restore_28 : decode cX7_restore 28 = .ok (.goto 7, 3) := by decide +kernel
theorem dX7_restore_31 : decode cX7_restore 31 = .ok (.aload_n 0, 1) := by decide +kernel
theorem dX7_restore_32 : decode cX7_restore 32 = .ok (.getfield 47, 3) := by decide +kernel
theorem dX7_restore_35 : decode cX7_restore 35 = .ok (.astore_n 2, 1) := by decide +kernel
theorem dX7_restore_36 : decode cX7_restore 36 = .ok (.aload_n 2, 1) := by decide +kernel
theorem dX7_restore_37 : decode cX7_restore 37 = .ok (.getfield 82, 3) := by decide +kernel
theorem dX7_restore_40 : decode cX7_restore 40 = .ok (.ifCond .ne 14, 3) := by decide +kernel
theorem dX7_restore_43 : decode cX7_restore 43 = .ok (.new 61, 3) := by decide +kernel
theorem dX7_restore_46 : decode cX7_restore 46 = .ok (.dup, 1) := by decide +kernel
theorem dX7_restore_47 : decode cX7_restore 47 = .ok (.ldc_w 327, 3) := by decide +kernel
theorem dX7_restore_50 : decode cX7_restore 50 = .ok (.invokespecial 65, 3) := by decide +kernel
theorem dX7_restore_53 : decode cX7_restore 53 = .ok (.athrow, 1) := by decide +kernel
theorem dX7_restore_54 : decode cX7_restore 54 = .ok (.aload_n 0, 1) := by decide +kernel
theorem dX7_restore_55 : decode cX7_restore 55 = .ok (.getfield 19, 3) := by decide +kernel
theorem dX7_restore_58 : decode cX7_restore 58 = .ok (.aload_n 2, 1) := by decide +kernel
theorem dX7_restore_59 : decode cX7_restore 59 = .ok (.getfield 324, 3) := by decide +kernel
theorem dX7_restore_62 : decode cX7_restore 62 = .ok (.invokevirtual 300, 3) := by decide +kernel
theorem dX7_restore_65 : decode cX7_restore 65 = .ok (.aload_n 0, 1) := by decide +kernel
theorem dX7_restore_66 : decode cX7_restore 66 = .ok (.getfield 29, 3) := by decide +kernel
theorem dX7_restore_69 : decode cX7_restore 69 = .ok (.invokevirtual 79, 3) := by decide +kernel
theorem dX7_restore_72 : decode cX7_restore 72 = .ok (.aload_n 0, 1) := by decide +kernel
theorem dX7_restore_73 : decode cX7_restore 73 = .ok (.getfield 19, 3) := by decide +kernel
theorem dX7_restore_76 : decode cX7_restore 76 = .ok (.getfield 90, 3) := by decide +kernel
theorem dX7_restore_79 : decode cX7_restore 79 = .ok (.ireturn, 1) := by decide +kernel
theorem dX7_fewestCuts_0 : decode cX7_fewestCuts 0 = .ok (.aload_n 0, 1) := by decide +kernel
theorem dX7_fewestCuts_1 : decode cX7_fewestCuts 1 = .ok (.getfield 36, 3) := by decide +kernel
theorem dX7_fewestCuts_4 : decode cX7_fewestCuts 4 = .ok (.aload_n 0, 1) := by decide +kernel
theorem dX7_fewestCuts_5 : decode cX7_fewestCuts 5 = .ok (.getfield 19, 3) := by decide +kernel
theorem dX7_fewestCuts_8 : decode cX7_fewestCuts 8 = .ok (.aload_n 0, 1) := by decide +kernel
theorem dX7_fewestCuts_9 : decode cX7_fewestCuts 9 = .ok (.getfield 19, 3) := by decide +kernel
theorem dX7_fewestCuts_12 : decode cX7_fewestCuts 12 = .ok (.getfield 93, 3) := by decide +kernel
theorem dX7_fewestCuts_15 : decode cX7_fewestCuts 15 = .ok (.invokevirtual 270, 3) := by decide +kernel
theorem dX7_fewestCuts_18 : decode cX7_fewestCuts 18 = .ok (.aload_n 0, 1) := by decide +kernel
theorem dX7_fewestCuts_19 : decode cX7_fewestCuts 19 = .ok (.getfield 36, 3) := by decide +kernel
theorem dX7_fewestCuts_22 : decode cX7_fewestCuts 22 = .ok (.bipush 6, 2) := by decide +kernel
theorem dX7_fewestCuts_24 : decode cX7_fewestCuts 24 = .ok (.invokevirtual 284, 3) := by decide +kernel
theorem dX7_fewestCuts_27 : decode cX7_fewestCuts 27 = .ok (.ireturn, 1) := by decide +kernel
theorem dX7_gapWith_0 : decode cX7_gapWith 0 = .ok (.aload_n 0, 1) := by decide +kernel
theorem dX7_gapWith_1 : decode cX7_gapWith 1 = .ok (.getfield 23, 3) := by decide +kernel
theorem dX7_gapWith_4 : decode cX7_gapWith 4 = .ok (.aload_n 0, 1) := by decide +kernel
theorem dX7_gapWith_5 : decode cX7_gapWith 5 = .ok (.getfield 19, 3) := by decide +kernel
theorem dX7_gapWith_8 : decode cX7_gapWith 8 = .ok (.invokevirtual 300, 3) := by decide +kernel
theorem dX7_gapWith_11 : decode cX7_gapWith 11 = .ok (.aload_n 0, 1) := by decide +kernel
theorem dX7_gapWith_12 : decode cX7_gapWith 12 = .ok (.getfield 23, 3) := by decide +kernel
theorem dX7_gapWith_15 : decode cX7_gapWith 15 = .ok (.iload_n 1, 1) := by decide +kernel
theorem dX7_gapWith_16 : decode cX7_gapWith 16 = .ok (.iload_n 2, 1) := by decide +kernel
theorem dX7_gapWith_17 : decode cX7_gapWith 17 = .ok (.invokevirtual 227, 3) := by decide +kernel
theorem dX7_gapWith_20 : decode cX7_gapWith 20 = .ok (.pop, 1) := by decide +kernel
theorem dX7_gapWith_21 : decode cX7_gapWith 21 = .ok (.aload_n 0, 1) := by decide +kernel
theorem dX7_gapWith_22 : decode cX7_gapWith 22 = .ok (.getfield 23, 3) := by decide +kernel
theorem dX7_gapWith_25 : decode cX7_gapWith 25 = .ok (.invokevirtual 102, 3) := by decide +kernel
theorem dX7_gapWith_28 : decode cX7_gapWith 28 = .ok (.ireturn, 1) := by decide +kernel
theorem dX7_isSister_0 : decode cX7_isSister 0 = .ok (.iload_n 0, 1) := by decide +kernel
theorem dX7_isSister_1 : decode cX7_isSister 1 = .ok (.ifCond .eq 8, 3) := by decide +kernel
theorem dX7_isSister_4 : decode cX7_isSister 4 = .ok (.iload_n 0, 1) := by decide +kernel
theorem dX7_isSister_5 : decode cX7_isSister 5 = .ok (.iconst 1, 1) := by decide +kernel
theorem dX7_isSister_6 : decode cX7_isSister 6 = .ok (.if_icmp .ne 7, 3) := by decide +kernel
theorem dX7_isSister_9 : decode cX7_isSister 9 = .ok (.iconst 1, 1) := by decide +kernel
theorem dX7_isSister_10 : decode cX7_isSister 10 = .ok (.goto 4, 3) := by decide +kernel
theorem dX7_isSister_13 : decode cX7_isSister 13 = .ok (.iconst 0, 1) := by decide +kernel
theorem dX7_isSister_14 : decode cX7_isSister 14 = .ok (.ireturn, 1) := by decide +kernel
theorem dX7_isOwner_0 : decode cX7_isOwner 0 = .ok (.iload_n 0, 1) := by decide +kernel
theorem dX7_isOwner_1 : decode cX7_isOwner 1 = .ok (.iconst (-1), 1) := by decide +kernel
theorem dX7_isOwner_2 : decode cX7_isOwner 2 = .ok (.if_icmp .eq 10, 3) := by decide +kernel
theorem dX7_isOwner_5 : decode cX7_isOwner 5 = .ok (.iload_n 0, 1) := by decide +kernel
theorem dX7_isOwner_6 : decode cX7_isOwner 6 = .ok (.invokestatic 177, 3) := by decide +kernel
theorem dX7_isOwner_9 : decode cX7_isOwner 9 = .ok (.ifCond .eq 7, 3) := by decide +kernel
theorem dX7_isOwner_12 : decode cX7_isOwner 12 = .ok (.iconst 1, 1) := by decide +kernel
theorem dX7_isOwner_13 : decode cX7_isOwner 13 = .ok (.goto 4, 3) := by decide +kernel
theorem dX7_isOwner_16 : decode cX7_isOwner 16 = .ok (.iconst 0, 1) := by decide +kernel
theorem dX7_isOwner_17 : decode cX7_isOwner 17 = .ok (.ireturn, 1) := by decide +kernel
theorem dX7_isKind_0 : decode cX7_isKind 0 = .ok (.iload_n 0, 1) := by decide +kernel
theorem dX7_isKind_1 : decode cX7_isKind 1 = .ok (.ifCond .lt 12, 3) := by decide +kernel
theorem dX7_isKind_4 : decode cX7_isKind 4 = .ok (.iload_n 0, 1) := by decide +kernel
theorem dX7_isKind_5 : decode cX7_isKind 5 = .ok (.iconst 4, 1) := by decide +kernel
theorem dX7_isKind_6 : decode cX7_isKind 6 = .ok (.if_icmp .ge 7, 3) := by decide +kernel
theorem dX7_isKind_9 : decode cX7_isKind 9 = .ok (.iconst 1, 1) := by decide +kernel
theorem dX7_isKind_10 : decode cX7_isKind 10 = .ok (.goto 4, 3) := by decide +kernel
theorem dX7_isKind_13 : decode cX7_isKind 13 = .ok (.iconst 0, 1) := by decide +kernel
theorem dX7_isKind_14 : decode cX7_isKind 14 = .ok (.ireturn, 1) := by decide +kernel
theorem dX7_isWeight_0 : decode cX7_isWeight 0 = .ok (.iload_n 0, 1) := by decide +kernel
theorem dX7_isWeight_1 : decode cX7_isWeight 1 = .ok (.iconst 1, 1) := by decide +kernel
theorem dX7_isWeight_2 : decode cX7_isWeight 2 = .ok (.if_icmp .lt 13, 3) := by decide +kernel
theorem dX7_isWeight_5 : decode cX7_isWeight 5 = .ok (.iload_n 0, 1) := by decide +kernel
theorem dX7_isWeight_6 : decode cX7_isWeight 6 = .ok (.bipush 9, 2) := by decide +kernel
theorem dX7_isWeight_8 : decode cX7_isWeight 8 = .ok (.if_icmp .gt 7, 3) := by decide +kernel
theorem dX7_isWeight_11 : decode cX7_isWeight 11 = .ok (.iconst 1, 1) := by decide +kernel
theorem dX7_isWeight_12 : decode cX7_isWeight 12 = .ok (.goto 4, 3) := by decide +kernel
theorem dX7_isWeight_15 : decode cX7_isWeight 15 = .ok (.iconst 0, 1) := by decide +kernel
theorem dX7_isWeight_16 : decode cX7_isWeight 16 = .ok (.ireturn, 1) := by decide +kernel
theorem dX7_isSetting_0 : decode cX7_isSetting 0 = .ok (.iload_n 0, 1) := by decide +kernel
theorem dX7_isSetting_1 : decode cX7_isSetting 1 = .ok (.ifCond .eq 8, 3) := by decide +kernel
theorem dX7_isSetting_4 : decode cX7_isSetting 4 = .ok (.iload_n 0, 1) := by decide +kernel
theorem dX7_isSetting_5 : decode cX7_isSetting 5 = .ok (.iconst 1, 1) := by decide +kernel
theorem dX7_isSetting_6 : decode cX7_isSetting 6 = .ok (.if_icmp .ne 7, 3) := by decide +kernel
theorem dX7_isSetting_9 : decode cX7_isSetting 9 = .ok (.iconst 1, 1) := by decide +kernel
theorem dX7_isSetting_10 : decode cX7_isSetting 10 = .ok (.goto 4, 3) := by decide +kernel
theorem dX7_isSetting_13 : decode cX7_isSetting 13 = .ok (.iconst 0, 1) := by decide +kernel
theorem dX7_isSetting_14 : decode cX7_isSetting 14 = .ok (.ireturn, 1) := by decide +kernel
theorem dX7_ownerFor_0 : decode cX7_ownerFor 0 = .ok (.iload_n 0, 1) := by decide +kernel
theorem dX7_ownerFor_1 : decode cX7_ownerFor 1 = .ok (.iconst 2, 1) := by decide +kernel
theorem dX7_ownerFor_2 : decode cX7_ownerFor 2 = .ok (.if_icmp .ne 7, 3) := by decide +kernel
theorem dX7_ownerFor_5 : decode cX7_ownerFor 5 = .ok (.iconst (-1), 1) := by decide +kernel
theorem dX7_ownerFor_6 : decode cX7_ownerFor 6 = .ok (.goto 4, 3) := by decide +kernel
theorem dX7_ownerFor_9 : decode cX7_ownerFor 9 = .ok (.iload_n 0, 1) := by decide +kernel
theorem dX7_ownerFor_10 : decode cX7_ownerFor 10 = .ok (.ireturn, 1) := by decide +kernel
