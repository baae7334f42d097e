theorem dX0_init_0 : decode cX0_init 0 = .ok (.aload_n 0, 1) := by decide +kernel
theorem dX0_init_1 : decode cX0_init 1 = .ok (.invokespecial 3, 3) := by decide +kernel
theorem dX0_init_4 : decode cX0_init 4 = .ok (.aload_n 0, 1) := by decide +kernel
theorem dX0_init_5 : decode cX0_init 5 = .ok (.bipush 24, 2) := by decide +kernel
theorem dX0_init_7 : decode cX0_init 7 = .ok (.newarray .int, 2) := by decide +kernel
theorem dX0_init_9 : decode cX0_init 9 = .ok (.putfield 9, 3) := by decide +kernel
theorem dX0_init_12 : decode cX0_init 12 = .ok (.aload_n 0, 1) := by decide +kernel
theorem dX0_init_13 : decode cX0_init 13 = .ok (.bipush 24, 2) := by decide +kernel
theorem dX0_init_15 : decode cX0_init 15 = .ok (.newarray .int, 2) := by decide +kernel
theorem dX0_init_17 : decode cX0_init 17 = .ok (.putfield 15, 3) := by decide +kernel
theorem dX0_init_20 : decode cX0_init 20 = .ok (.aload_n 0, 1) := by decide +kernel
theorem dX0_init_21 : decode cX0_init 21 = .ok (.bipush 20, 2) := by decide +kernel
theorem dX0_init_23 : decode cX0_init 23 = .ok (.anewarray 18, 3) := by decide +kernel
theorem dX0_init_26 : decode cX0_init 26 = .ok (.putfield 20, 3) := by decide +kernel
theorem dX0_init_29 : decode cX0_init 29 = .ok (.aload_n 0, 1) := by decide +kernel
theorem dX0_init_30 : decode cX0_init 30 = .ok (.bipush 100, 2) := by decide +kernel
theorem dX0_init_32 : decode cX0_init 32 = .ok (.putfield 24, 3) := by decide +kernel
theorem dX0_init_35 : decode cX0_init 35 = .ok (.iconst 0, 1) := by decide +kernel
theorem dX0_init_36 : decode cX0_init 36 = .ok (.istore_n 1, 1) := by decide +kernel
theorem dX0_init_37 : decode cX0_init 37 = .ok (.iload_n 1, 1) := by decide +kernel
theorem dX0_init_38 : decode cX0_init 38 = .ok (.bipush 20, 2) := by decide +kernel
theorem dX0_init_40 : decode cX0_init 40 = .ok (.if_icmp .ge 22, 3) := by decide +kernel
theorem dX0_init_43 : decode cX0_init 43 = .ok (.aload_n 0, 1) := by decide +kernel
theorem dX0_init_44 : decode cX0_init 44 = .ok (.getfield 20, 3) := by decide +kernel
theorem dX0_init_47 : decode cX0_init 47 = .ok (.iload_n 1, 1) := by decide +kernel
theorem dX0_init_48 : decode cX0_init 48 = .ok (.new 18, 3) := by decide +kernel
theorem dX0_init_51 : decode cX0_init 51 = .ok (.dup, 1) := by decide +kernel
theorem dX0_init_52 : decode cX0_init 52 = .ok (.invokespecial 28, 3) := by decide +kernel
theorem dX0_init_55 : decode cX0_init 55 = .ok (.aastore, 1) := by decide +kernel
theorem dX0_init_56 : decode cX0_init 56 = .ok (.iinc 1 1, 3) := by decide +kernel
theorem dX0_init_59 : decode cX0_init 59 = .ok (.goto (-22), 3) := by decide +kernel
theorem dX0_init_62 : decode cX0_init 62 = .ok (.return_, 1) := by decide +kernel
theorem dX0_copyFrom_0 : decode cX0_copyFrom 0 = .ok (.aload_n 1, 1) := by decide +kernel
theorem dX0_copyFrom_1 : decode cX0_copyFrom 1 = .ok (.getfield 9, 3) := by decide +kernel
theorem dX0_copyFrom_4 : decode cX0_copyFrom 4 = .ok (.iconst 0, 1) := by decide +kernel
theorem dX0_copyFrom_5 : decode cX0_copyFrom 5 = .ok (.aload_n 0, 1) := by decide +kernel
theorem dX0_copyFrom_6 : decode cX0_copyFrom 6 = .ok (.getfield 9, 3) := by decide +kernel
theorem dX0_copyFrom_9 : decode cX0_copyFrom 9 = .ok (.iconst 0, 1) := by decide +kernel
theorem dX0_copyFrom_10 : decode cX0_copyFrom 10 = .ok (.bipush 24, 2) := by decide +kernel
theorem dX0_copyFrom_12 : decode cX0_copyFrom 12 = .ok (.invokestatic 29, 3) := by decide +kernel
theorem dX0_copyFrom_15 : decode cX0_copyFrom 15 = .ok (.aload_n 1, 1) := by decide +kernel
theorem dX0_copyFrom_16 : decode cX0_copyFrom 16 = .ok (.getfield 15, 3) := by decide +kernel
theorem dX0_copyFrom_19 : decode cX0_copyFrom 19 = .ok (.iconst 0, 1) := by decide +kernel
theorem dX0_copyFrom_20 : decode cX0_copyFrom 20 = .ok (.aload_n 0, 1) := by decide +kernel
theorem dX0_copyFrom_21 : decode cX0_copyFrom 21 = .ok (.getfield 15, 3) := by decide +kernel
theorem dX0_copyFrom_24 : decode cX0_copyFrom 24 = .ok (.iconst 0, 1) := by decide +kernel
theorem dX0_copyFrom_25 : decode cX0_copyFrom 25 = .ok (.bipush 24, 2) := by decide +kernel
theorem dX0_copyFrom_27 : decode cX0_copyFrom 27 = .ok (.invokestatic 29, 3) := by decide +kernel
theorem dX0_copyFrom_30 : decode cX0_copyFrom 30 = .ok (.iconst 0, 1) := by decide +kernel
theorem dX0_copyFrom_31 : decode cX0_copyFrom 31 = .ok (.istore_n 2, 1) := by decide +kernel
theorem dX0_copyFrom_32 : decode cX0_copyFrom 32 = .ok (.iload_n 2, 1) := by decide +kernel
theorem dX0_copyFrom_33 : decode cX0_copyFrom 33 = .ok (.aload_n 1, 1) := by decide +kernel
theorem dX0_copyFrom_34 : decode cX0_copyFrom 34 = .ok (.getfield 35, 3) := by decide +kernel
theorem dX0_copyFrom_37 : decode cX0_copyFrom 37 = .ok (.if_icmp .ge 24, 3) := by decide +kernel
theorem dX0_copyFrom_40 : decode cX0_copyFrom 40 = .ok (.aload_n 0, 1) := by decide +kernel
theorem dX0_copyFrom_41 : decode cX0_copyFrom 41 = .ok (.getfield 20, 3) := by decide +kernel
theorem dX0_copyFrom_44 : decode cX0_copyFrom 44 = .ok (.iload_n 2, 1) := by decide +kernel
theorem dX0_copyFrom_45 : decode cX0_copyFrom 45 = .ok (.aaload, 1) := by decide +kernel
theorem dX0_copyFrom_46 : decode cX0_copyFrom 46 = .ok (.aload_n 1, 1) := by decide +kernel
theorem dX0_copyFrom_47 : decode cX0_copyFrom 47 = .ok (.getfield 20, 3) := by decide +kernel
theorem dX0_copyFrom_50 : decode cX0_copyFrom 50 = .ok (.iload_n 2, 1) := by decide +kernel
theorem dX0_copyFrom_51 : decode cX0_copyFrom 51 = .ok (.aaload, 1) := by decide +kernel
theorem dX0_copyFrom_52 : decode cX0_copyFrom 52 = .ok (.invokevirtual 38, 3) := by decide +kernel
theorem dX0_copyFrom_55 : decode cX0_copyFrom 55 = .ok (.iinc 2 1, 3) := by decide +kernel
theorem dX0_copyFrom_58 : decode cX0_copyFrom 58 = .ok (.goto (-26), 3) := by decide +kernel
theorem dX0_copyFrom_61 : decode cX0_copyFrom 61 = .ok (.aload_n 0, 1) := by decide +kernel
theorem dX0_copyFrom_62 : decode cX0_copyFrom 62 = .ok (.aload_n 1, 1) := by decide +kernel
theorem dX0_copyFrom_63 : decode cX0_copyFrom 63 = .ok (.getfield 35, 3) := by decide +kernel
theorem dX0_copyFrom_66 : decode cX0_copyFrom 66 = .ok (.putfield 35, 3) := by decide +kernel
theorem dX0_copyFrom_69 : decode cX0_copyFrom 69 = .ok (.aload_n 0, 1) := by decide +kernel
theorem dX0_copyFrom_70 : decode cX0_copyFrom 70 = .ok (.aload_n 1, 1) := by decide +kernel
theorem dX0_copyFrom_71 : decode cX0_copyFrom 71 = .ok (.getfield 42, 3) := by decide +kernel
theorem dX0_copyFrom_74 : decode cX0_copyFrom 74 = .ok (.putfield 42, 3) := by decide +kernel
theorem dX0_copyFrom_77 : decode cX0_copyFrom 77 = .ok (.aload_n 0, 1) := by decide +kernel
theorem dX0_copyFrom_78 : decode cX0_copyFrom 78 = .ok (.aload_n 1, 1) := by decide +kernel
theorem dX0_copyFrom_79 : decode cX0_copyFrom 79 = .ok (.getfield 45, 3) := by decide +kernel
theorem dX0_copyFrom_82 : decode cX0_copyFrom 82 = .ok (.putfield 45, 3) := by decide +kernel
theorem dX0_copyFrom_85 : decode cX0_copyFrom 85 = .ok (.aload_n 0, 1) := by decide +kernel
theorem dX0_copyFrom_86 : decode cX0_copyFrom 86 = .ok (.aload_n 1, 1) := by decide +kernel
theorem dX0_copyFrom_87 : decode cX0_copyFrom 87 = .ok (.getfield 24, 3) := by decide +kernel
theorem dX0_copyFrom_90 : decode cX0_copyFrom 90 = .ok (.putfield 24, 3) := by decide +kernel
theorem dX0_copyFrom_93 : decode cX0_copyFrom 93 = .ok (.aload_n 0, 1) := by decide +kernel
theorem dX0_copyFrom_94 : decode cX0_copyFrom 94 = .ok (.aload_n 1, 1) := by decide +kernel
theorem dX0_copyFrom_95 : decode cX0_copyFrom 95 = .ok (.getfield 48, 3) := by decide +kernel
theorem dX0_copyFrom_98 : decode cX0_copyFrom 98 = .ok (.putfield 48, 3) := by decide +kernel
theorem dX0_copyFrom_101 : decode cX0_copyFrom 101 = .ok (.aload_n 0, 1) := by decide +kernel
theorem dX0_copyFrom_102 : decode cX0_copyFrom 102 = .ok (.aload_n 1, 1) := by decide +kernel
theorem dX0_copyFrom_103 : decode cX0_copyFrom 103 = .ok (.getfield 51, 3) := by decide +kernel
theorem dX0_copyFrom_106 : decode cX0_copyFrom 106 = .ok (.putfield 51, 3) := by decide +kernel
theorem dX0_copyFrom_109 : decode cX0_copyFrom 109 = .ok (.aload_n 0, 1) := by decide +kernel
theorem dX0_copyFrom_110 : decode cX0_copyFrom 110 = .ok (.aload_n 1, 1) := by decide +kernel
theorem dX0_copyFrom_111 : decode cX0_copyFrom 111 = .ok (.getfield 54, 3) := by decide +kernel
theorem dX0_copyFrom_114 : decode cX0_copyFrom 114 = .ok (.putfield 54, 3) := by decide +kernel
theorem dX0_copyFrom_117 : decode cX0_copyFrom 117 = .ok (.aload_n 0, 1) := by decide +kernel
theorem dX0_copyFrom_118 : decode cX0_copyFrom 118 = .ok (.aload_n 1, 1) := by decide +kernel
theorem dX0_copyFrom_119 : decode cX0_copyFrom 119 = .ok (.getfield 57, 3) := by decide +kernel
theorem dX0_copyFrom_122 : decode cX0_copyFrom 122 = .ok (.putfield 57, 3) := by decide +kernel
theorem dX0_copyFrom_125 : decode cX0_copyFrom 125 = .ok (.aload_n 0, 1) := by decide +kernel
theorem dX0_copyFrom_126 : decode cX0_copyFrom 126 = .ok (.aload_n 1, 1) := by decide +kernel
theorem dX0_copyFrom_127 : decode cX0_copyFrom 127 = .ok (.getfield 60, 3) := by decide +kernel
theorem dX0_copyFrom_130 : decode cX0_copyFrom 130 = .ok (.putfield 60, 3) := by decide +kernel
theorem dX0_copyFrom_133 : decode cX0_copyFrom 133 = .ok (.aload_n 0, 1) := by decide +kernel
theorem dX0_copyFrom_134 : decode cX0_copyFrom 134 = .ok (.aload_n 1, 1) := by decide +kernel
theorem dX0_copyFrom_135 : decode cX0_copyFrom 135 = .ok (.getfield 63, 3) := by decide +kernel
theorem dX0_copyFrom_138 : decode cX0_copyFrom 138 = .ok (.putfield 63, 3) := by decide +kernel
theorem dX0_copyFrom_141 : decode cX0_copyFrom 141 = .ok (.return_, 1) := by decide +kernel
theorem dX0_archAt_0 : decode cX0_archAt 0 = .ok (.aload_n 0, 1) := by decide +kernel
theorem dX0_archAt_1 : decode cX0_archAt 1 = .ok (.getfield 20, 3) := by decide +kernel
theorem dX0_archAt_4 : decode cX0_archAt 4 = .ok (.iload_n 1, 1) := by decide +kernel
theorem dX0_archAt_5 : decode cX0_archAt 5 = .ok (.aaload, 1) := by decide +kernel
theorem dX0_archAt_6 : decode cX0_archAt 6 = .ok (.areturn, 1) := by decide +kernel
theorem dX0_mostHeightOfNext_0 : decode cX0_mostHeightOfNext 0 = .ok (.aload_n 0, 1) := by decide +kernel
theorem dX0_mostHeightOfNext_1 : decode cX0_mostHeightOfNext 1 = .ok (.getfield 35, 3) := by decide +kernel
theorem dX0_mostHeightOfNext_4 : decode cX0_mostHeightOfNext 4 = .ok (.ifCond .ne 9, 3) := by decide +kernel
theorem dX0_mostHeightOfNext_7 : decode cX0_mostHeightOfNext 7 = .ok (.sipush 200, 3) := by decide +kernel
theorem dX0_mostHeightOfNext_10 : decode cX0_mostHeightOfNext 10 = .ok (.goto 17, 3) := by decide +kernel
theorem dX0_mostHeightOfNext_13 : decode cX0_mostHeightOfNext 13 = .ok (.aload_n 0, 1) := by decide +kernel
theorem dX0_mostHeightOfNext_14 : decode cX0_mostHeightOfNext 14 = .ok (.getfield 20, 3) := by decide +kernel
theorem dX0_mostHeightOfNext_17 : decode cX0_mostHeightOfNext 17 = .ok (.aload_n 0, 1) := by decide +kernel
theorem dX0_mostHeightOfNext_18 : decode cX0_mostHeightOfNext 18 = .ok (.getfield 35, 3) := by decide +kernel
theorem dX0_mostHeightOfNext_21 : decode cX0_mostHeightOfNext 21 = .ok (.iconst 1, 1) := by decide +kernel
theorem dX0_mostHeightOfNext_22 : decode cX0_mostHeightOfNext 22 = .ok (.isub, 1) := by decide +kernel
theorem dX0_mostHeightOfNext_23 : decode cX0_mostHeightOfNext 23 = .ok (.aaload, 1) := by decide +kernel
theorem dX0_mostHeightOfNext_24 : decode cX0_mostHeightOfNext 24 = .ok (.getfield 66, 3) := by decide +kernel
theorem dX0_mostHeightOfNext_27 : decode cX0_mostHeightOfNext 27 = .ok (.ireturn, 1) := by decide +kernel
theorem dX0_addArch_0 : decode cX0_addArch 0 = .ok (.aload_n 0, 1) := by decide +kernel
theorem dX0_addArch_1 : decode cX0_addArch 1 = .ok (.getfield 35, 3) := by decide +kernel
theorem dX0_addArch_4 : decode cX0_addArch 4 = .ok (.istore_n 3, 1) := by decide +kernel
theorem dX0_addArch_5 : decode cX0_addArch 5 = .ok (.aload_n 0, 1) := by decide +kernel
theorem dX0_addArch_6 : decode cX0_addArch 6 = .ok (.getfield 20, 3) := by decide +kernel
theorem dX0_addArch_9 : decode cX0_addArch 9 = .ok (.iload_n 3, 1) := by decide +kernel
theorem dX0_addArch_10 : decode cX0_addArch 10 = .ok (.aaload, 1) := by decide +kernel
theorem dX0_addArch_11 : decode cX0_addArch 11 = .ok (.iload_n 1, 1) := by decide +kernel
theorem dX0_addArch_12 : decode cX0_addArch 12 = .ok (.putfield 66, 3) := by decide +kernel
theorem dX0_addArch_15 : decode cX0_addArch 15 = .ok (.aload_n 0, 1) := by decide +kernel
theorem dX0_addArch_16 : decode cX0_addArch 16 = .ok (.getfield 20, 3) := by decide +kernel
theorem dX0_addArch_19 : decode cX0_addArch 19 = .ok (.iload_n 3, 1) := by decide +kernel
theorem dX0_addArch_20 : decode cX0_addArch 20 = .ok (.aaload, 1) := by decide +kernel
theorem dX0_addArch_21 : decode cX0_addArch 21 = .ok (.iload_n 2, 1) := by decide +kernel
theorem dX0_addArch_22 : decode cX0_addArch 22 = .ok (.putfield 69, 3) := by decide +kernel
theorem dX0_addArch_25 : decode cX0_addArch 25 = .ok (.aload_n 0, 1) := by decide +kernel
theorem dX0_addArch_26 : decode cX0_addArch 26 = .ok (.dup, 1) := by decide +kernel
theorem dX0_addArch_27 : decode cX0_addArch 27 = .ok (.getfield 35, 3) := by decide +kernel
theorem dX0_addArch_30 : decode cX0_addArch 30 = .ok (.iconst 1, 1) := by decide +kernel
theorem dX0_addArch_31 : decode cX0_addArch 31 = .ok (.iadd, 1) := by decide +kernel
theorem dX0_addArch_32 : decode cX0_addArch 32 = .ok (.putfield 35, 3) := by decide +kernel
theorem dX0_addArch_35 : decode cX0_addArch 35 = .ok (.iload_n 3, 1) := by decide +kernel
theorem dX0_addArch_36 : decode cX0_addArch 36 = .ok (.ireturn, 1) := by decide +kernel
theorem dX0_resizeCistern_0 : decode cX0_resizeCistern 0 = .ok (.iconst 0, 1) := by decide +kernel
theorem dX0_resizeCistern_1 : decode cX0_resizeCistern 1 = .ok (.aload_n 0, 1) := by decide +kernel
theorem dX0_resizeCistern_2 : decode cX0_resizeCistern 2 = .ok (.getfield 48, 3) := by decide +kernel
theorem dX0_resizeCistern_5 : decode cX0_resizeCistern 5 = .ok (.iload_n 1, 1) := by decide +kernel
theorem dX0_resizeCistern_6 : decode cX0_resizeCistern 6 = .ok (.isub, 1) := by decide +kernel
theorem dX0_resizeCistern_7 : decode cX0_resizeCistern 7 = .ok (.invokestatic 72, 3) := by decide +kernel
theorem dX0_resizeCistern_10 : decode cX0_resizeCistern 10 = .ok (.istore_n 2, 1) := by decide +kernel
theorem dX0_resizeCistern_11 : decode cX0_resizeCistern 11 = .ok (.aload_n 0, 1) := by decide +kernel
theorem dX0_resizeCistern_12 : decode cX0_resizeCistern 12 = .ok (.iload_n 1, 1) := by decide +kernel
theorem dX0_resizeCistern_13 : decode cX0_resizeCistern 13 = .ok (.putfield 24, 3) := by decide +kernel
theorem dX0_resizeCistern_16 : decode cX0_resizeCistern 16 = .ok (.aload_n 0, 1) := by decide +kernel
theorem dX0_resizeCistern_17 : decode cX0_resizeCistern 17 = .ok (.dup, 1) := by decide +kernel
theorem dX0_resizeCistern_18 : decode cX0_resizeCistern 18 = .ok (.getfield 48, 3) := by decide +kernel
theorem dX0_resizeCistern_21 : decode cX0_resizeCistern 21 = .ok (.iload_n 2, 1) := by decide +kernel
theorem dX0_resizeCistern_22 : decode cX0_resizeCistern 22 = .ok (.isub, 1) := by decide +kernel
theorem dX0_resizeCistern_23 : decode cX0_resizeCistern 23 = .ok (.putfield 48, 3) := by decide +kernel
theorem dX0_resizeCistern_26 : decode cX0_resizeCistern 26 = .ok (.aload_n 0, 1) := by decide +kernel
theorem dX0_resizeCistern_27 : decode cX0_resizeCistern 27 = .ok (.dup, 1) := by decide +kernel
theorem dX0_resizeCistern_28 : decode cX0_resizeCistern 28 = .ok (.getfield 54, 3) := by decide +kernel
theorem dX0_resizeCistern_31 : decode cX0_resizeCistern 31 = .ok (.iload_n 2, 1) := by decide +kernel
theorem dX0_resizeCistern_32 : decode cX0_resizeCistern 32 = .ok (.iadd, 1) := by decide +kernel
theorem dX0_resizeCistern_33 : decode cX0_resizeCistern 33 = .ok (.putfield 54, 3) := by decide +kernel
theorem dX0_resizeCistern_36 : decode cX0_resizeCistern 36 = .ok (.iload_n 2, 1) := by decide +kernel
theorem dX0_resizeCistern_37 : decode cX0_resizeCistern 37 = .ok (.ireturn, 1) := by decide +kernel
theorem dX0_goOn_0 : decode cX0_goOn 0 = .ok (.iconst 0, 1) := by decide +kernel
theorem dX0_goOn_1 : decode cX0_goOn 1 = .ok (.istore_n 2, 1) := by decide +kernel
theorem dX0_goOn_2 : decode cX0_goOn 2 = .ok (.iload_n 2, 1) := by decide +kernel
theorem dX0_goOn_3 : decode cX0_goOn 3 = .ok (.iload_n 1, 1) := by decide +kernel
theorem dX0_goOn_4 : decode cX0_goOn 4 = .ok (.if_icmp .ge 13, 3) := by decide +kernel
theorem dX0_goOn_7 : decode cX0_goOn 7 = .ok (.aload_n 0, 1) := by decide +kernel
theorem dX0_goOn_8 : decode cX0_goOn 8 = .ok (.invokevirtual 78, 3) := by decide +kernel
theorem dX0_goOn_11 : decode cX0_goOn 11 = .ok (.iinc 2 1, 3) := by decide +kernel
theorem dX0_goOn_14 : decode cX0_goOn 14 = .ok (.goto (-12), 3) := by decide +kernel
theorem dX0_goOn_17 : decode cX0_goOn 17 = .ok (.return_, 1) := by decide +kernel
theorem dX0_goOnAnHour_0 : decode cX0_goOnAnHour 0 = .ok (.aload_n 0, 1) := by decide +kernel
theorem dX0_goOnAnHour_1 : decode cX0_goOnAnHour 1 = .ok (.getfield 42, 3) := by decide +kernel
theorem dX0_goOnAnHour_4 : decode cX0_goOnAnHour 4 = .ok (.bipush 24, 2) := by decide +kernel
theorem dX0_goOnAnHour_6 : decode cX0_goOnAnHour 6 = .ok (.invokestatic 81, 3) := by decide +kernel
theorem dX0_goOnAnHour_9 : decode cX0_goOnAnHour 9 = .ok (.istore_n 1, 1) := by decide +kernel
theorem dX0_goOnAnHour_10 : decode cX0_goOnAnHour 10 = .ok (.aload_n 0, 1) := by decide +kernel
theorem dX0_goOnAnHour_11 : decode cX0_goOnAnHour 11 = .ok (.aload_n 0, 1) := by decide +kernel
theorem dX0_goOnAnHour_12 : decode cX0_goOnAnHour 12 = .ok (.getfield 15, 3) := by decide +kernel
theorem dX0_goOnAnHour_15 : decode cX0_goOnAnHour 15 = .ok (.iload_n 1, 1) := by decide +kernel
theorem dX0_goOnAnHour_16 : decode cX0_goOnAnHour 16 = .ok (.iaload, 1) := by decide +kernel
theorem dX0_goOnAnHour_17 : decode cX0_goOnAnHour 17 = .ok (.invokevirtual 84, 3) := by decide +kernel
theorem dX0_goOnAnHour_20 : decode cX0_goOnAnHour 20 = .ok (.aload_n 0, 1) := by decide +kernel
theorem dX0_goOnAnHour_21 : decode cX0_goOnAnHour 21 = .ok (.getfield 35, 3) := by decide +kernel
theorem dX0_goOnAnHour_24 : decode cX0_goOnAnHour 24 = .ok (.iconst 1, 1) := by decide +kernel
theorem dX0_goOnAnHour_25 : decode cX0_goOnAnHour 25 = .ok (.isub, 1) := by decide +kernel
theorem dX0_goOnAnHour_26 : decode cX0_goOnAnHour 26 = .ok (.istore_n 2, 1) := by decide +kernel
theorem dX0_goOnAnHour_27 : decode cX0_goOnAnHour 27 = .ok (.iload_n 2, 1) := by decide +kernel
theorem dX0_goOnAnHour_28 : decode cX0_goOnAnHour 28 = .ok (.ifCond .lt 14, 3) := by decide +kernel
theorem dX0_goOnAnHour_31 : decode cX0_goOnAnHour 31 = .ok (.aload_n 0, 1) := by decide +kernel
theorem dX0_goOnAnHour_32 : decode cX0_goOnAnHour 32 = .ok (.iload_n 2, 1) := by decide +kernel
theorem dX0_goOnAnHour_33 : decode cX0_goOnAnHour 33 = .ok (.invokevirtual 88, 3) := by decide +kernel
theorem dX0_goOnAnHour_36 : decode cX0_goOnAnHour 36 = .ok (.iinc 2 (-1), 3) := by decide +kernel
theorem dX0_goOnAnHour_39 : decode cX0_goOnAnHour 39 = .ok (.goto (-12), 3) := by decide +kernel
theorem dX0_goOnAnHour_42 : decode cX0_goOnAnHour 42 = .ok (.iconst 0, 1) := by decide +kernel
theorem dX0_goOnAnHour_43 : decode cX0_goOnAnHour 43 = .ok (.istore_n 2, 1) := by decide +kernel
theorem dX0_goOnAnHour_44 : decode cX0_goOnAnHour 44 = .ok (.iload_n 2, 1) := by decide +kernel
theorem dX0_goOnAnHour_45 : decode cX0_goOnAnHour 45 = .ok (.aload_n 0, 1) := by decide +kernel
theorem dX0_goOnAnHour_46 : decode cX0_goOnAnHour 46 = .ok (.getfield 35, 3) := by decide +kernel
theorem dX0_goOnAnHour_49 : decode cX0_goOnAnHour 49 = .ok (.if_icmp .ge 14, 3) := by decide +kernel
theorem dX0_goOnAnHour_52 : decode cX0_goOnAnHour 52 = .ok (.aload_n 0, 1) := by decide +kernel
theorem dX0_goOnAnHour_53 : decode cX0_goOnAnHour 53 = .ok (.iload_n 2, 1) := by decide +kernel
theorem dX0_goOnAnHour_54 : decode cX0_goOnAnHour 54 = .ok (.invokevirtual 91, 3) := by decide +kernel
theorem dX0_goOnAnHour_57 : decode cX0_goOnAnHour 57 = .ok (.iinc 2 1, 3) := by decide +kernel
theorem dX0_goOnAnHour_60 : decode cX0_goOnAnHour 60 = .ok (.goto (-16), 3) := by decide +kernel
theorem dX0_goOnAnHour_63 : decode cX0_goOnAnHour 63 = .ok (.aload_n 0, 1) := by decide +kernel
theorem dX0_goOnAnHour_64 : decode cX0_goOnAnHour 64 = .ok (.aload_n 0, 1) := by decide +kernel
theorem dX0_goOnAnHour_65 : decode cX0_goOnAnHour 65 = .ok (.getfield 9, 3) := by decide +kernel
theorem dX0_goOnAnHour_68 : decode cX0_goOnAnHour 68 = .ok (.iload_n 1, 1) := by decide +kernel
theorem dX0_goOnAnHour_69 : decode cX0_goOnAnHour 69 = .ok (.iaload, 1) := by decide +kernel
theorem dX0_goOnAnHour_70 : decode cX0_goOnAnHour 70 = .ok (.invokevirtual 94, 3) := by decide +kernel
theorem dX0_goOnAnHour_73 : decode cX0_goOnAnHour 73 = .ok (.iconst 0, 1) := by decide +kernel
theorem dX0_goOnAnHour_74 : decode cX0_goOnAnHour 74 = .ok (.istore_n 2, 1) := by decide +kernel
theorem dX0_goOnAnHour_75 : decode cX0_goOnAnHour 75 = .ok (.iload_n 2, 1) := by decide +kernel
theorem dX0_goOnAnHour_76 : decode cX0_goOnAnHour 76 = .ok (.aload_n 0, 1) := by decide +kernel
theorem dX0_goOnAnHour_77 : decode cX0_goOnAnHour 77 = .ok (.getfield 35, 3) := by decide +kernel
theorem dX0_goOnAnHour_80 : decode cX0_goOnAnHour 80 = .ok (.if_icmp .ge 18, 3) := by decide +kernel
theorem dX0_goOnAnHour_83 : decode cX0_goOnAnHour 83 = .ok (.aload_n 0, 1) := by decide +kernel
theorem dX0_goOnAnHour_84 : decode cX0_goOnAnHour 84 = .ok (.getfield 20, 3) := by decide +kernel
theorem dX0_goOnAnHour_87 : decode cX0_goOnAnHour 87 = .ok (.iload_n 2, 1) := by decide +kernel
theorem dX0_goOnAnHour_88 : decode cX0_goOnAnHour 88 = .ok (.aaload, 1) := by decide +kernel
theorem dX0_goOnAnHour_89 : decode cX0_goOnAnHour 89 = .ok (.invokevirtual 97, 3) := by decide +kernel
theorem dX0_goOnAnHour_92 : decode cX0_goOnAnHour 92 = .ok (.iinc 2 1, 3) := by decide +kernel
theorem dX0_goOnAnHour_95 : decode cX0_goOnAnHour 95 = .ok (.goto (-20), 3) := by decide +kernel
theorem dX0_goOnAnHour_98 : decode cX0_goOnAnHour 98 = .ok (.iload_n 1, 1) := by decide +kernel
theorem dX0_goOnAnHour_99 : decode cX0_goOnAnHour 99 = .ok (.bipush 23, 2) := by decide +kernel
theorem dX0_goOnAnHour_101 : decode cX0_goOnAnHour 101 = .ok (.if_icmp .ne 7, 3) := by decide +kernel
theorem dX0_goOnAnHour_104 : decode cX0_goOnAnHour 104 = .ok (.aload_n 0, 1) := by decide +kernel
theorem dX0_goOnAnHour_105 : decode cX0_goOnAnHour 105 = .ok (.invokevirtual 100, 3) := by decide +kernel
theorem dX0_goOnAnHour_108 : decode cX0_goOnAnHour 108 = .ok (.aload_n 0, 1) := by decide +kernel
theorem dX0_goOnAnHour_109 : decode cX0_goOnAnHour 109 = .ok (.dup, 1) := by decide +kernel
theorem dX0_goOnAnHour_110 : decode cX0_goOnAnHour 110 = .ok (.getfield 42, 3) := by decide +kernel
theorem dX0_goOnAnHour_113 : decode cX0_goOnAnHour 113 = .ok (.iconst 1, 1) := by decide +kernel
theorem dX0_goOnAnHour_114 : decode cX0_goOnAnHour 114 = .ok (.iadd, 1) := by decide +kernel
theorem dX0_goOnAnHour_115 : decode cX0_goOnAnHour 115 = .ok (.putfield 42, 3) := by decide +kernel
theorem dX0_goOnAnHour_118 : decode cX0_goOnAnHour 118 = .ok (.return_, 1) := by decide +kernel
theorem dX0_letCityDrink_0 : decode cX0_letCityDrink 0 = .ok (.iload_n 1, 1) := by decide +kernel
theorem dX0_letCityDrink_1 : decode cX0_letCityDrink 1 = .ok (.aload_n 0, 1) := by decide +kernel
theorem dX0_letCityDrink_2 : decode cX0_letCityDrink 2 = .ok (.getfield 48, 3) := by decide +kernel
theorem dX0_letCityDrink_5 : decode cX0_letCityDrink 5 = .ok (.invokestatic 103, 3) := by decide +kernel
theorem dX0_letCityDrink_8 : decode cX0_letCityDrink 8 = .ok (.istore_n 2, 1) := by decide +kernel
theorem dX0_letCityDrink_9 : decode cX0_letCityDrink 9 = .ok (.aload_n 0, 1) := by decide +kernel
theorem dX0_letCityDrink_10 : decode cX0_letCityDrink 10 = .ok (.dup, 1) := by decide +kernel
theorem dX0_letCityDrink_11 : decode cX0_letCityDrink 11 = .ok (.getfield 48, 3) := by decide +kernel
theorem dX0_letCityDrink_14 : decode cX0_letCityDrink 14 = .ok (.iload_n 2, 1) := by decide +kernel
theorem dX0_letCityDrink_15 : decode cX0_letCityDrink 15 = .ok (.isub, 1) := by decide +kernel
theorem dX0_letCityDrink_16 : decode cX0_letCityDrink 16 = .ok (.putfield 48, 3) := by decide +kernel
theorem dX0_letCityDrink_19 : decode cX0_letCityDrink 19 = .ok (.aload_n 0, 1) := by decide +kernel
theorem dX0_letCityDrink_20 : decode cX0_letCityDrink 20 = .ok (.dup, 1) := by decide +kernel
theorem dX0_letCityDrink_21 : decode cX0_letCityDrink 21 = .ok (.getfield 60, 3) := by decide +kernel
theorem dX0_letCityDrink_24 : decode cX0_letCityDrink 24 = .ok (.iload_n 2, 1) := by decide +kernel
theorem dX0_letCityDrink_25 : decode cX0_letCityDrink 25 = .ok (.iadd, 1) := by decide +kernel
theorem dX0_letCityDrink_26 : decode cX0_letCityDrink 26 = .ok (.putfield 60, 3) := by decide +kernel
theorem dX0_letCityDrink_29 : decode cX0_letCityDrink 29 = .ok (.aload_n 0, 1) := by decide +kernel
theorem dX0_letCityDrink_30 : decode cX0_letCityDrink 30 = .ok (.dup, 1) := by decide +kernel
theorem dX0_letCityDrink_31 : decode cX0_letCityDrink 31 = .ok (.getfield 63, 3) := by decide +kernel
theorem dX0_letCityDrink_34 : decode cX0_letCityDrink 34 = .ok (.iload_n 1, 1) := by decide +kernel
theorem dX0_letCityDrink_35 : decode cX0_letCityDrink 35 = .ok (.iload_n 2, 1) := by decide +kernel
theorem dX0_letCityDrink_36 : decode cX0_letCityDrink 36 = .ok (.isub, 1) := by decide +kernel
theorem dX0_letCityDrink_37 : decode cX0_letCityDrink 37 = .ok (.iadd, 1) := by decide +kernel
theorem dX0_letCityDrink_38 : decode cX0_letCityDrink 38 = .ok (.putfield 63, 3) := by decide +kernel
theorem dX0_letCityDrink_41 : decode cX0_letCityDrink 41 = .ok (.return_, 1) := by decide +kernel
theorem dX0_sendOn_0 : decode cX0_sendOn 0 = .ok (.aload_n 0, 1) := by decide +kernel
theorem dX0_sendOn_1 : decode cX0_sendOn 1 = .ok (.getfield 20, 3) := by decide +kernel
theorem dX0_sendOn_4 : decode cX0_sendOn 4 = .ok (.iload_n 1, 1) := by decide +kernel
theorem dX0_sendOn_5 : decode cX0_sendOn 5 = .ok (.aaload, 1) := by decide +kernel
theorem dX0_sendOn_6 : decode cX0_sendOn 6 = .ok (.astore_n 2, 1) := by decide +kernel
theorem dX0_sendOn_7 : decode cX0_sendOn 7 = .ok (.aload_n 2, 1) := by decide +kernel
theorem dX0_sendOn_8 : decode cX0_sendOn 8 = .ok (.getfield 106, 3) := by decide +kernel
theorem dX0_sendOn_11 : decode cX0_sendOn 11 = .ok (.aload_n 0, 1) := by decide +kernel
theorem dX0_sendOn_12 : decode cX0_sendOn 12 = .ok (.iload_n 1, 1) := by decide +kernel
theorem dX0_sendOn_13 : decode cX0_sendOn 13 = .ok (.invokevirtual 109, 3) := by decide +kernel
theorem dX0_sendOn_16 : decode cX0_sendOn 16 = .ok (.invokestatic 103, 3) := by decide +kernel
theorem dX0_sendOn_19 : decode cX0_sendOn 19 = .ok (.istore_n 3, 1) := by decide +kernel
theorem dX0_sendOn_20 : decode cX0_sendOn 20 = .ok (.aload_n 2, 1) := by decide +kernel
theorem dX0_sendOn_21 : decode cX0_sendOn 21 = .ok (.iload_n 3, 1) := by decide +kernel
theorem dX0_sendOn_22 : decode cX0_sendOn 22 = .ok (.invokevirtual 113, 3) := by decide +kernel
theorem dX0_sendOn_25 : decode cX0_sendOn 25 = .ok (.istore 4, 2) := by decide +kernel
theorem dX0_sendOn_27 : decode cX0_sendOn 27 = .ok (.aload_n 2, 1) := by decide +kernel
theorem dX0_sendOn_28 : decode cX0_sendOn 28 = .ok (.dup, 1) := by decide +kernel
theorem dX0_sendOn_29 : decode cX0_sendOn 29 = .ok (.getfield 106, 3) := by decide +kernel
theorem dX0_sendOn_32 : decode cX0_sendOn 32 = .ok (.aload_n 0, 1) := by decide +kernel
theorem dX0_sendOn_33 : decode cX0_sendOn 33 = .ok (.iload_n 1, 1) := by decide +kernel
theorem dX0_sendOn_34 : decode cX0_sendOn 34 = .ok (.iconst 1, 1) := by decide +kernel
theorem dX0_sendOn_35 : decode cX0_sendOn 35 = .ok (.iadd, 1) := by decide +kernel
theorem dX0_sendOn_36 : decode cX0_sendOn 36 = .ok (.iload 4, 2) := by decide +kernel
theorem dX0_sendOn_38 : decode cX0_sendOn 38 = .ok (.invokevirtual 116, 3) := by decide +kernel
theorem dX0_sendOn_41 : decode cX0_sendOn 41 = .ok (.isub, 1) := by decide +kernel
theorem dX0_sendOn_42 : decode cX0_sendOn 42 = .ok (.putfield 106, 3) := by decide +kernel
theorem dX0_sendOn_45 : decode cX0_sendOn 45 = .ok (.return_, 1) := by decide +kernel
theorem dX0_grindAt_0 : decode cX0_grindAt 0 = .ok (.aload_n 0, 1) := by decide +kernel
theorem dX0_grindAt_1 : decode cX0_grindAt 1 = .ok (.getfield 20, 3) := by decide +kernel
theorem dX0_grindAt_4 : decode cX0_grindAt 4 = .ok (.iload_n 1, 1) := by decide +kernel
theorem dX0_grindAt_5 : decode cX0_grindAt 5 = .ok (.aaload, 1) := by decide +kernel
theorem dX0_grindAt_6 : decode cX0_grindAt 6 = .ok (.astore_n 2, 1) := by decide +kernel
theorem dX0_grindAt_7 : decode cX0_grindAt 7 = .ok (.aload_n 2, 1) := by decide +kernel
theorem dX0_grindAt_8 : decode cX0_grindAt 8 = .ok (.getfield 119, 3) := by decide +kernel
theorem dX0_grindAt_11 : decode cX0_grindAt 11 = .ok (.iconst 2, 1) := by decide +kernel
theorem dX0_grindAt_12 : decode cX0_grindAt 12 = .ok (.idiv, 1) := by decide +kernel
theorem dX0_grindAt_13 : decode cX0_grindAt 13 = .ok (.istore_n 3, 1) := by decide +kernel
theorem dX0_grindAt_14 : decode cX0_grindAt 14 = .ok (.aload_n 0, 1) := by decide +kernel
theorem dX0_grindAt_15 : decode cX0_grindAt 15 = .ok (.dup, 1) := by decide +kernel
theorem dX0_grindAt_16 : decode cX0_grindAt 16 = .ok (.getfield 45, 3) := by decide +kernel
theorem dX0_grindAt_19 : decode cX0_grindAt 19 = .ok (.aload_n 2, 1) := by decide +kernel
theorem dX0_grindAt_20 : decode cX0_grindAt 20 = .ok (.invokevirtual 122, 3) := by decide +kernel
theorem dX0_grindAt_23 : decode cX0_grindAt 23 = .ok (.iadd, 1) := by decide +kernel
theorem dX0_grindAt_24 : decode cX0_grindAt 24 = .ok (.putfield 45, 3) := by decide +kernel
theorem dX0_grindAt_27 : decode cX0_grindAt 27 = .ok (.aload_n 0, 1) := by decide +kernel
theorem dX0_grindAt_28 : decode cX0_grindAt 28 = .ok (.dup, 1) := by decide +kernel
theorem dX0_grindAt_29 : decode cX0_grindAt 29 = .ok (.getfield 54, 3) := by decide +kernel
theorem dX0_grindAt_32 : decode cX0_grindAt 32 = .ok (.iload_n 3, 1) := by decide +kernel
theorem dX0_grindAt_33 : decode cX0_grindAt 33 = .ok (.aload_n 0, 1) := by decide +kernel
theorem dX0_grindAt_34 : decode cX0_grindAt 34 = .ok (.iload_n 1, 1) := by decide +kernel
theorem dX0_grindAt_35 : decode cX0_grindAt 35 = .ok (.iconst 2, 1) := by decide +kernel
theorem dX0_grindAt_36 : decode cX0_grindAt 36 = .ok (.iadd, 1) := by decide +kernel
theorem dX0_grindAt_37 : decode cX0_grindAt 37 = .ok (.iload_n 3, 1) := by decide +kernel
theorem dX0_grindAt_38 : decode cX0_grindAt 38 = .ok (.invokevirtual 116, 3) := by decide +kernel
theorem dX0_grindAt_41 : decode cX0_grindAt 41 = .ok (.isub, 1) := by decide +kernel
theorem dX0_grindAt_42 : decode cX0_grindAt 42 = .ok (.iadd, 1) := by decide +kernel
theorem dX0_grindAt_43 : decode cX0_grindAt 43 = .ok (.putfield 54, 3) := by decide +kernel
theorem dX0_grindAt_46 : decode cX0_grindAt 46 = .ok (.aload_n 0, 1) := by decide +kernel
theorem dX0_grindAt_47 : decode cX0_grindAt 47 = .ok (.dup, 1) := by decide +kernel
theorem dX0_grindAt_48 : decode cX0_grindAt 48 = .ok (.getfield 57, 3) := by decide +kernel
theorem dX0_grindAt_51 : decode cX0_grindAt 51 = .ok (.aload_n 2, 1) := by decide +kernel
theorem dX0_grindAt_52 : decode cX0_grindAt 52 = .ok (.getfield 119, 3) := by decide +kernel
theorem dX0_grindAt_55 : decode cX0_grindAt 55 = .ok (.iload_n 3, 1) := by decide +kernel
theorem dX0_grindAt_56 : decode cX0_grindAt 56 = .ok (.isub, 1) := by decide +kernel
theorem dX0_grindAt_57 : decode cX0_grindAt 57 = .ok (.iadd, 1) := by decide +kernel
theorem dX0_grindAt_58 : decode cX0_grindAt 58 = .ok (.putfield 57, 3) := by decide +kernel
theorem dX0_grindAt_61 : decode cX0_grindAt 61 = .ok (.return_, 1) := by decide +kernel
theorem dX0_letSpringGive_0 : decode cX0_letSpringGive 0 = .ok (.aload_n 0, 1) := by decide +kernel
theorem dX0_letSpringGive_1 : decode cX0_letSpringGive 1 = .ok (.dup, 1) := by decide +kernel
theorem dX0_letSpringGive_2 : decode cX0_letSpringGive 2 = .ok (.getfield 51, 3) := by decide +kernel
theorem dX0_letSpringGive_5 : decode cX0_letSpringGive 5 = .ok (.iload_n 1, 1) := by decide +kernel
theorem dX0_letSpringGive_6 : decode cX0_letSpringGive 6 = .ok (.iadd, 1) := by decide +kernel
theorem dX0_letSpringGive_7 : decode cX0_letSpringGive 7 = .ok (.putfield 51, 3) := by decide +kernel
theorem dX0_letSpringGive_10 : decode cX0_letSpringGive 10 = .ok (.aload_n 0, 1) := by decide +kernel
theorem dX0_letSpringGive_11 : decode cX0_letSpringGive 11 = .ok (.getfield 35, 3) := by decide +kernel
theorem dX0_letSpringGive_14 : decode cX0_letSpringGive 14 = .ok (.ifCond .ne 7, 3) := by decide +kernel
theorem dX0_letSpringGive_17 : decode cX0_letSpringGive 17 = .ok (.iconst 0, 1) := by decide +kernel
theorem dX0_letSpringGive_18 : decode cX0_letSpringGive 18 = .ok (.goto 13, 3) := by decide +kernel
theorem dX0_letSpringGive_21 : decode cX0_letSpringGive 21 = .ok (.aload_n 0, 1) := by decide +kernel
theorem dX0_letSpringGive_22 : decode cX0_letSpringGive 22 = .ok (.getfield 20, 3) := by decide +kernel
theorem dX0_letSpringGive_25 : decode cX0_letSpringGive 25 = .ok (.iconst 0, 1) := by decide +kernel
theorem dX0_letSpringGive_26 : decode cX0_letSpringGive 26 = .ok (.aaload, 1) := by decide +kernel
theorem dX0_letSpringGive_27 : decode cX0_letSpringGive 27 = .ok (.iload_n 1, 1) := by decide +kernel
theorem dX0_letSpringGive_28 : decode cX0_letSpringGive 28 = .ok (.invokevirtual 126, 3) := by decide +kernel
theorem dX0_letSpringGive_31 : decode cX0_letSpringGive 31 = .ok (.istore_n 2, 1) := by decide +kernel
theorem dX0_letSpringGive_32 : decode cX0_letSpringGive 32 = .ok (.aload_n 0, 1) := by decide +kernel
theorem dX0_letSpringGive_33 : decode cX0_letSpringGive 33 = .ok (.dup, 1) := by decide +kernel
theorem dX0_letSpringGive_34 : decode cX0_letSpringGive 34 = .ok (.getfield 54, 3) := by decide +kernel
theorem dX0_letSpringGive_37 : decode cX0_letSpringGive 37 = .ok (.iload_n 1, 1) := by decide +kernel
theorem dX0_letSpringGive_38 : decode cX0_letSpringGive 38 = .ok (.iload_n 2, 1) := by decide +kernel
theorem dX0_letSpringGive_39 : decode cX0_letSpringGive 39 = .ok (.isub, 1) := by decide +kernel
theorem dX0_letSpringGive_40 : decode cX0_letSpringGive 40 = .ok (.iadd, 1) := by decide +kernel
theorem dX0_letSpringGive_41 : decode cX0_letSpringGive 41 = .ok (.putfield 54, 3) := by decide +kernel
theorem dX0_letSpringGive_44 : decode cX0_letSpringGive 44 = .ok (.return_, 1) := by decide +kernel
theorem dX0_wearAll_0 : decode cX0_wearAll 0 = .ok (.iconst 0, 1) := by decide +kernel
theorem dX0_wearAll_1 : decode cX0_wearAll 1 = .ok (.istore_n 1, 1) := by decide +kernel
theorem dX0_wearAll_2 : decode cX0_wearAll 2 = .ok (.iload_n 1, 1) := by decide +kernel
theorem dX0_wearAll_3 : decode cX0_wearAll 3 = .ok (.aload_n 0, 1) := by decide +kernel
theorem dX0_wearAll_4 : decode cX0_wearAll 4 = .ok (.getfield 35, 3) := by decide +kernel
theorem dX0_wearAll_7 : decode cX0_wearAll 7 = .ok (.if_icmp .ge 18, 3) := by decide +kernel
theorem dX0_wearAll_10 : decode cX0_wearAll 10 = .ok (.aload_n 0, 1) := by decide +kernel
theorem dX0_wearAll_11 : decode cX0_wearAll 11 = .ok (.getfield 20, 3) := by decide +kernel
theorem dX0_wearAll_14 : decode cX0_wearAll 14 = .ok (.iload_n 1, 1) := by decide +kernel
theorem dX0_wearAll_15 : decode cX0_wearAll 15 = .ok (.aaload, 1) := by decide +kernel
theorem dX0_wearAll_16 : decode cX0_wearAll 16 = .ok (.invokevirtual 129, 3) := by decide +kernel
theorem dX0_wearAll_19 : decode cX0_wearAll 19 = .ok (.iinc 1 1, 3) := by decide +kernel
theorem dX0_wearAll_22 : decode cX0_wearAll 22 = .ok (.goto (-20), 3) := by decide +kernel
theorem dX0_wearAll_25 : decode cX0_wearAll 25 = .ok (.return_, 1) := by decide +kernel
theorem dX0_pour_0 : decode cX0_pour 0 = .ok (.iload_n 1, 1) := by decide +kernel
theorem dX0_pour_1 : decode cX0_pour 1 = .ok (.aload_n 0, 1) := by decide +kernel
theorem dX0_pour_2 : decode cX0_pour 2 = .ok (.getfield 35, 3) := by decide +kernel
theorem dX0_pour_5 : decode cX0_pour 5 = .ok (.if_icmp .ge 14, 3) := by decide +kernel
theorem dX0_pour_8 : decode cX0_pour 8 = .ok (.aload_n 0, 1) := by decide +kernel
theorem dX0_pour_9 : decode cX0_pour 9 = .ok (.getfield 20, 3) := by decide +kernel
theorem dX0_pour_12 : decode cX0_pour 12 = .ok (.iload_n 1, 1) := by decide +kernel
theorem dX0_pour_13 : decode cX0_pour 13 = .ok (.aaload, 1) := by decide +kernel
theorem dX0_pour_14 : decode cX0_pour 14 = .ok (.iload_n 2, 1) := by decide +kernel
theorem dX0_pour_15 : decode cX0_pour 15 = .ok (.invokevirtual 126, 3) := by decide +kernel
theorem dX0_pour_18 : decode cX0_pour 18 = .ok (.ireturn, 1) := by decide +kernel
theorem dX0_pour_19 : decode cX0_pour 19 = .ok (.iload_n 2, 1) := by decide +kernel
theorem dX0_pour_20 : decode cX0_pour 20 = .ok (.aload_n 0, 1) := by decide +kernel
theorem dX0_pour_21 : decode cX0_pour 21 = .ok (.getfield 24, 3) := by decide +kernel
theorem dX0_pour_24 : decode cX0_pour 24 = .ok (.aload_n 0, 1) := by decide +kernel
theorem dX0_pour_25 : decode cX0_pour 25 = .ok (.getfield 48, 3) := by decide +kernel
theorem dX0_pour_28 : decode cX0_pour 28 = .ok (.isub, 1) := by decide +kernel
theorem dX0_pour_29 : decode cX0_pour 29 = .ok (.invokestatic 103, 3) := by decide +kernel
theorem dX0_pour_32 : decode cX0_pour 32 = .ok (.istore_n 3, 1) := by decide +kernel
theorem dX0_pour_33 : decode cX0_pour 33 = .ok (.aload_n 0, 1) := by decide +kernel
theorem dX0_pour_34 : decode cX0_pour 34 = .ok (.dup, 1) := by decide +kernel
theorem dX0_pour_35 : decode cX0_pour 35 = .ok (.getfield 48, 3) := by decide +kernel
theorem dX0_pour_38 : decode cX0_pour 38 = .ok (.iload_n 3, 1) := by decide +kernel
theorem dX0_pour_39 : decode cX0_pour 39 = .ok (.iadd, 1) := by decide +kernel
theorem dX0_pour_40 : decode cX0_pour 40 = .ok (.putfield 48, 3) := by decide +kernel
theorem dX0_pour_43 : decode cX0_pour 43 = .ok (.iload_n 3, 1) := by decide +kernel
theorem dX0_pour_44 : decode cX0_pour 44 = .ok (.ireturn, 1) := by decide +kernel
theorem dX0_slope_0 : decode cX0_slope 0 = .ok (.iload_n 1, 1) := by decide +kernel
theorem dX0_slope_1 : decode cX0_slope 1 = .ok (.iconst 1, 1) := by decide +kernel
theorem dX0_slope_2 : decode cX0_slope 2 = .ok (.iadd, 1) := by decide +kernel
theorem dX0_slope_3 : decode cX0_slope 3 = .ok (.aload_n 0, 1) := by decide +kernel
theorem dX0_slope_4 : decode cX0_slope 4 = .ok (.getfield 35, 3) := by decide +kernel
theorem dX0_slope_7 : decode cX0_slope 7 = .ok (.if_icmp .ge 17, 3) := by decide +kernel
theorem dX0_slope_10 : decode cX0_slope 10 = .ok (.aload_n 0, 1) := by decide +kernel
theorem dX0_slope_11 : decode cX0_slope 11 = .ok (.getfield 20, 3) := by decide +kernel
theorem dX0_slope_14 : decode cX0_slope 14 = .ok (.iload_n 1, 1) := by decide +kernel
theorem dX0_slope_15 : decode cX0_slope 15 = .ok (.iconst 1, 1) := by decide +kernel
theorem dX0_slope_16 : decode cX0_slope 16 = .ok (.iadd, 1) := by decide +kernel
theorem dX0_slope_17 : decode cX0_slope 17 = .ok (.aaload, 1) := by decide +kernel
theorem dX0_slope_18 : decode cX0_slope 18 = .ok (.getfield 66, 3) := by decide +kernel
theorem dX0_slope_21 : decode cX0_slope 21 = .ok (.goto 4, 3) := by decide +kernel
theorem dX0_slope_24 : decode cX0_slope 24 = .ok (.iconst 0, 1) := by decide +kernel
theorem dX0_slope_25 : decode cX0_slope 25 = .ok (.istore_n 2, 1) := by decide +kernel
theorem dX0_slope_26 : decode cX0_slope 26 = .ok (.aload_n 0, 1) := by decide +kernel
theorem dX0_slope_27 : decode cX0_slope 27 = .ok (.getfield 20, 3) := by decide +kernel
theorem dX0_slope_30 : decode cX0_slope 30 = .ok (.iload_n 1, 1) := by decide +kernel
theorem dX0_slope_31 : decode cX0_slope 31 = .ok (.aaload, 1) := by decide +kernel
theorem dX0_slope_32 : decode cX0_slope 32 = .ok (.getfield 66, 3) := by decide +kernel
theorem dX0_slope_35 : decode cX0_slope 35 = .ok (.iload_n 2, 1) := by decide +kernel
theorem dX0_slope_36 : decode cX0_slope 36 = .ok (.isub, 1) := by decide +kernel
theorem dX0_slope_37 : decode cX0_slope 37 = .ok (.ireturn, 1) := by decide +kernel
theorem dX0_rate_0 : decode cX0_rate 0 = .ok (.bipush 30, 2) := by decide +kernel
theorem dX0_rate_2 : decode cX0_rate 2 = .ok (.iconst 2, 1) := by decide +kernel
theorem dX0_rate_3 : decode cX0_rate 3 = .ok (.aload_n 0, 1) := by decide +kernel
theorem dX0_rate_4 : decode cX0_rate 4 = .ok (.iload_n 1, 1) := by decide +kernel
theorem dX0_rate_5 : decode cX0_rate 5 = .ok (.invokevirtual 132, 3) := by decide +kernel
theorem dX0_rate_8 : decode cX0_rate 8 = .ok (.iadd, 1) := by decide +kernel
theorem dX0_rate_9 : decode cX0_rate 9 = .ok (.invokestatic 103, 3) := by decide +kernel
theorem dX0_rate_12 : decode cX0_rate 12 = .ok (.ireturn, 1) := by decide +kernel
theorem dX0_mills_0 : decode cX0_mills 0 = .ok (.iconst 0, 1) := by decide +kernel
theorem dX0_mills_1 : decode cX0_mills 1 = .ok (.istore_n 1, 1) := by decide +kernel
theorem dX0_mills_2 : decode cX0_mills 2 = .ok (.iconst 0, 1) := by decide +kernel
theorem dX0_mills_3 : decode cX0_mills 3 = .ok (.istore_n 2, 1) := by decide +kernel
theorem dX0_mills_4 : decode cX0_mills 4 = .ok (.iload_n 2, 1) := by decide +kernel
theorem dX0_mills_5 : decode cX0_mills 5 = .ok (.aload_n 0, 1) := by decide +kernel
theorem dX0_mills_6 : decode cX0_mills 6 = .ok (.getfield 35, 3) := by decide +kernel
theorem dX0_mills_9 : decode cX0_mills 9 = .ok (.if_icmp .ge 29, 3) := by decide +kernel
theorem dX0_mills_12 : decode cX0_mills 12 = .ok (.iload_n 1, 1) := by decide +kernel
theorem dX0_mills_13 : decode cX0_mills 13 = .ok (.aload_n 0, 1) := by decide +kernel
theorem dX0_mills_14 : decode cX0_mills 14 = .ok (.getfield 20, 3) := by decide +kernel
theorem dX0_mills_17 : decode cX0_mills 17 = .ok (.iload_n 2, 1) := by decide +kernel
theorem dX0_mills_18 : decode cX0_mills 18 = .ok (.aaload, 1) := by decide +kernel
theorem dX0_mills_19 : decode cX0_mills 19 = .ok (.invokevirtual 135, 3) := by decide +kernel
theorem dX0_mills_22 : decode cX0_mills 22 = .ok (.ifCond .eq 7, 3) := by decide +kernel
theorem dX0_mills_25 : decode cX0_mills 25 = .ok (.iconst 1, 1) := by decide +kernel
theorem dX0_mills_26 : decode cX0_mills 26 = .ok (.goto 4, 3) := by decide +kernel
theorem dX0_mills_29 : decode cX0_mills 29 = .ok (.iconst 0, 1) := by decide +kernel
theorem dX0_mills_30 : decode cX0_mills 30 = .ok (.iadd, 1) := by decide +kernel
theorem dX0_mills_31 : decode cX0_mills 31 = .ok (.istore_n 1, 1) := by decide +kernel
theorem dX0_mills_32 : decode cX0_mills 32 = .ok (.iinc 2 1, 3) := by decide +kernel
theorem dX0_mills_35 : decode cX0_mills 35 = .ok (.goto (-31), 3) := by decide +kernel
theorem dX0_mills_38 : decode cX0_mills 38 = .ok (.iload_n 1, 1) := by decide +kernel
theorem dX0_mills_39 : decode cX0_mills 39 = .ok (.ireturn, 1) := by decide +kernel
theorem dX0_water_0 : decode cX0_water 0 = .ok (.iconst 0, 1) := by decide +kernel
theorem dX0_water_1 : decode cX0_water 1 = .ok (.istore_n 1, 1) := by decide +kernel
theorem dX0_water_2 : decode cX0_water 2 = .ok (.iconst 0, 1) := by decide +kernel
theorem dX0_water_3 : decode cX0_water 3 = .ok (.istore_n 2, 1) := by decide +kernel
theorem dX0_water_4 : decode cX0_water 4 = .ok (.iload_n 2, 1) := by decide +kernel
theorem dX0_water_5 : decode cX0_water 5 = .ok (.aload_n 0, 1) := by decide +kernel
theorem dX0_water_6 : decode cX0_water 6 = .ok (.getfield 35, 3) := by decide +kernel
theorem dX0_water_9 : decode cX0_water 9 = .ok (.if_icmp .ge 21, 3) := by decide +kernel
theorem dX0_water_12 : decode cX0_water 12 = .ok (.iload_n 1, 1) := by decide +kernel
theorem dX0_water_13 : decode cX0_water 13 = .ok (.aload_n 0, 1) := by decide +kernel
theorem dX0_water_14 : decode cX0_water 14 = .ok (.getfield 20, 3) := by decide +kernel
theorem dX0_water_17 : decode cX0_water 17 = .ok (.iload_n 2, 1) := by decide +kernel
theorem dX0_water_18 : decode cX0_water 18 = .ok (.aaload, 1) := by decide +kernel
theorem dX0_water_19 : decode cX0_water 19 = .ok (.getfield 106, 3) := by decide +kernel
theorem dX0_water_22 : decode cX0_water 22 = .ok (.iadd, 1) := by decide +kernel
theorem dX0_water_23 : decode cX0_water 23 = .ok (.istore_n 1, 1) := by decide +kernel
theorem dX0_water_24 : decode cX0_water 24 = .ok (.iinc 2 1, 3) := by decide +kernel
theorem dX0_water_27 : decode cX0_water 27 = .ok (.goto (-23), 3) := by decide +kernel
theorem dX0_water_30 : decode cX0_water 30 = .ok (.iload_n 1, 1) := by decide +kernel
theorem dX0_water_31 : decode cX0_water 31 = .ok (.ireturn, 1) := by decide +kernel
theorem dX0_leaked_0 : decode cX0_leaked 0 = .ok (.iconst 0, 1) := by decide +kernel
theorem dX0_leaked_1 : decode cX0_leaked 1 = .ok (.istore_n 1, 1) := by decide +kernel
theorem dX0_leaked_2 : decode cX0_leaked 2 = .ok (.iconst 0, 1) := by decide +kernel
theorem dX0_leaked_3 : decode cX0_leaked 3 = .ok (.istore_n 2, 1) := by decide +kernel
theorem dX0_leaked_4 : decode cX0_leaked 4 = .ok (.iload_n 2, 1) := by decide +kernel
theorem dX0_leaked_5 : decode cX0_leaked 5 = .ok (.aload_n 0, 1) := by decide +kernel
theorem dX0_leaked_6 : decode cX0_leaked 6 = .ok (.getfield 35, 3) := by decide +kernel
theorem dX0_leaked_9 : decode cX0_leaked 9 = .ok (.if_icmp .ge 21, 3) := by decide +kernel
theorem dX0_leaked_12 : decode cX0_leaked 12 = .ok (.iload_n 1, 1) := by decide +kernel
theorem dX0_leaked_13 : decode cX0_leaked 13 = .ok (.aload_n 0, 1) := by decide +kernel
theorem dX0_leaked_14 : decode cX0_leaked 14 = .ok (.getfield 20, 3) := by decide +kernel
theorem dX0_leaked_17 : decode cX0_leaked 17 = .ok (.iload_n 2, 1) := by decide +kernel
theorem dX0_leaked_18 : decode cX0_leaked 18 = .ok (.aaload, 1) := by decide +kernel
theorem dX0_leaked_19 : decode cX0_leaked 19 = .ok (.getfield 139, 3) := by decide +kernel
theorem dX0_leaked_22 : decode cX0_leaked 22 = .ok (.iadd, 1) := by decide +kernel
theorem dX0_leaked_23 : decode cX0_leaked 23 = .ok (.istore_n 1, 1) := by decide +kernel
theorem dX0_leaked_24 : decode cX0_leaked 24 = .ok (.iinc 2 1, 3) := by decide +kernel
theorem dX0_leaked_27 : decode cX0_leaked 27 = .ok (.goto (-23), 3) := by decide +kernel
theorem dX0_leaked_30 : decode cX0_leaked 30 = .ok (.iload_n 1, 1) := by decide +kernel
theorem dX0_leaked_31 : decode cX0_leaked 31 = .ok (.ireturn, 1) := by decide +kernel
theorem dX0_flour_0 : decode cX0_flour 0 = .ok (.iconst 0, 1) := by decide +kernel
theorem dX0_flour_1 : decode cX0_flour 1 = .ok (.istore_n 1, 1) := by decide +kernel
theorem dX0_flour_2 : decode cX0_flour 2 = .ok (.iconst 0, 1) := by decide +kernel
theorem dX0_flour_3 : decode cX0_flour 3 = .ok (.istore_n 2, 1) := by decide +kernel
theorem dX0_flour_4 : decode cX0_flour 4 = .ok (.iload_n 2, 1) := by decide +kernel
theorem dX0_flour_5 : decode cX0_flour 5 = .ok (.aload_n 0, 1) := by decide +kernel
theorem dX0_flour_6 : decode cX0_flour 6 = .ok (.getfield 35, 3) := by decide +kernel
theorem dX0_flour_9 : decode cX0_flour 9 = .ok (.if_icmp .ge 21, 3) := by decide +kernel
theorem dX0_flour_12 : decode cX0_flour 12 = .ok (.iload_n 1, 1) := by decide +kernel
theorem dX0_flour_13 : decode cX0_flour 13 = .ok (.aload_n 0, 1) := by decide +kernel
theorem dX0_flour_14 : decode cX0_flour 14 = .ok (.getfield 20, 3) := by decide +kernel
theorem dX0_flour_17 : decode cX0_flour 17 = .ok (.iload_n 2, 1) := by decide +kernel
theorem dX0_flour_18 : decode cX0_flour 18 = .ok (.aaload, 1) := by decide +kernel
theorem dX0_flour_19 : decode cX0_flour 19 = .ok (.getfield 142, 3) := by decide +kernel
theorem dX0_flour_22 : decode cX0_flour 22 = .ok (.iadd, 1) := by decide +kernel
theorem dX0_flour_23 : decode cX0_flour 23 = .ok (.istore_n 1, 1) := by decide +kernel
theorem dX0_flour_24 : decode cX0_flour 24 = .ok (.iinc 2 1, 3) := by decide +kernel
theorem dX0_flour_27 : decode cX0_flour 27 = .ok (.goto (-23), 3) := by decide +kernel
theorem dX0_flour_30 : decode cX0_flour 30 = .ok (.iload_n 1, 1) := by decide +kernel
theorem dX0_flour_31 : decode cX0_flour 31 = .ok (.ireturn, 1) := by decide +kernel
theorem dX0_archNumber_0 : decode cX0_archNumber 0 = .ok (.aload_n 0, 1) := by decide +kernel
theorem dX0_archNumber_1 : decode cX0_archNumber 1 = .ok (.getfield 20, 3) := by decide +kernel
theorem dX0_archNumber_4 : decode cX0_archNumber 4 = .ok (.iload_n 1, 1) := by decide +kernel
theorem dX0_archNumber_5 : decode cX0_archNumber 5 = .ok (.aaload, 1) := by decide +kernel
theorem dX0_archNumber_6 : decode cX0_archNumber 6 = .ok (.astore_n 3, 1) := by decide +kernel
theorem dX0_archNumber_7 : decode cX0_archNumber 7 = .ok (.iload_n 2, 1) := by decide +kernel
theorem dX0_archNumber_8 : decode cX0_archNumber 8 = .ok (.tableswitch 90 0 7 #[48, 53, 58, 63, 68, 73, 79, 85], 48) := by decide +kernel
theorem dX0_archNumber_56 : decode cX0_archNumber 56 = .ok (.aload_n 3, 1) := by decide +kernel
theorem dX0_archNumber_57 : decode cX0_archNumber 57 = .ok (.getfield 66, 3) := by decide +kernel
theorem dX0_archNumber_60 : decode cX0_archNumber 60 = .ok (.ireturn, 1) := by decide +kernel
theorem dX0_archNumber_61 : decode cX0_archNumber 61 = .ok (.aload_n 3, 1) := by decide +kernel
theorem dX0_archNumber_62 : decode cX0_archNumber 62 = .ok (.getfield 69, 3) := by decide +kernel
theorem dX0_archNumber_65 : decode cX0_archNumber 65 = .ok (.ireturn, 1) := by decide +kernel
theorem dX0_archNumber_66 : decode cX0_archNumber 66 = .ok (.aload_n 3, 1) := by decide +kernel
theorem dX0_archNumber_67 : decode cX0_archNumber 67 = .ok (.getfield 106, 3) := by decide +kernel
theorem dX0_archNumber_70 : decode cX0_archNumber 70 = .ok (.ireturn, 1) := by decide +kernel
theorem dX0_archNumber_71 : decode cX0_archNumber 71 = .ok (.aload_n 3, 1) := by decide +kernel
theorem dX0_archNumber_72 : decode cX0_archNumber 72 = .ok (.getfield 145, 3) := by decide +kernel
theorem dX0_archNumber_75 : decode cX0_archNumber 75 = .ok (.ireturn, 1) := by decide +kernel
theorem dX0_archNumber_76 : decode cX0_archNumber 76 = .ok (.aload_n 3, 1) := by decide +kernel
theorem dX0_archNumber_77 : decode cX0_archNumber 77 = .ok (.getfield 148, 3) := by decide +kernel
theorem dX0_archNumber_80 : decode cX0_archNumber 80 = .ok (.ireturn, 1) := by decide +kernel
theorem dX0_archNumber_81 : decode cX0_archNumber 81 = .ok (.aload_n 0, 1) := by decide +kernel
theorem dX0_archNumber_82 : decode cX0_archNumber 82 = .ok (.iload_n 1, 1) := by decide +kernel
theorem dX0_archNumber_83 : decode cX0_archNumber 83 = .ok (.invokevirtual 132, 3) := by decide +kernel
theorem dX0_archNumber_86 : decode cX0_archNumber 86 = .ok (.ireturn, 1) := by decide +kernel
theorem dX0_archNumber_87 : decode cX0_archNumber 87 = .ok (.aload_n 0, 1) := by decide +kernel
theorem dX0_archNumber_88 : decode cX0_archNumber 88 = .ok (.iload_n 1, 1) := by decide +kernel
theorem dX0_archNumber_89 : decode cX0_archNumber 89 = .ok (.invokevirtual 109, 3) := by decide +kernel
theorem dX0_archNumber_92 : decode cX0_archNumber 92 = .ok (.ireturn, 1) := by decide +kernel
theorem dX0_archNumber_93 : decode cX0_archNumber 93 = .ok (.aload_n 3, 1) := by decide +kernel
theorem dX0_archNumber_94 : decode cX0_archNumber 94 = .ok (.getfield 139, 3) := by decide +kernel
theorem dX0_archNumber_97 : decode cX0_archNumber 97 = .ok (.ireturn, 1) := by decide +kernel
theorem dX0_archNumber_98 : decode cX0_archNumber 98 = .ok (.aload_n 3, 1) := by decide +kernel
theorem dX0_archNumber_99 : decode cX0_archNumber 99 = .ok (.invokevirtual 135, 3) := by decide +kernel
theorem dX0_archNumber_102 : decode cX0_archNumber 102 = .ok (.ifCond .eq 7, 3) := by decide +kernel
theorem dX0_archNumber_105 : decode cX0_archNumber 105 = .ok (.iconst 1, 1) := by decide +kernel
theorem dX0_archNumber_106 : decode cX0_archNumber 106 = .ok (.goto 4, 3) := by decide +kernel
theorem dX0_archNumber_109 : decode cX0_archNumber 109 = .ok (.iconst 0, 1) := by decide +kernel
theorem dX0_archNumber_110 : decode cX0_archNumber 110 = .ok (.ireturn, 1) := by decide +kernel
theorem dX0_countNumber_0 : decode cX0_countNumber 0 = .ok (.iload_n 1, 1) := by decide +kernel
theorem dX0_countNumber_1 : decode cX0_countNumber 1 = .ok (.tableswitch 114 0 10 #[59, 64, 69, 74, 79, 84, 89, 94, 99, 104, 109], 59) := by decide +kernel
theorem dX0_countNumber_60 : decode cX0_countNumber 60 = .ok (.aload_n 0, 1) := by decide +kernel
theorem dX0_countNumber_61 : decode cX0_countNumber 61 = .ok (.getfield 42, 3) := by decide +kernel
theorem dX0_countNumber_64 : decode cX0_countNumber 64 = .ok (.ireturn, 1) := by decide +kernel
theorem dX0_countNumber_65 : decode cX0_countNumber 65 = .ok (.aload_n 0, 1) := by decide +kernel
theorem dX0_countNumber_66 : decode cX0_countNumber 66 = .ok (.getfield 35, 3) := by decide +kernel
theorem dX0_countNumber_69 : decode cX0_countNumber 69 = .ok (.ireturn, 1) := by decide +kernel
theorem dX0_countNumber_70 : decode cX0_countNumber 70 = .ok (.aload_n 0, 1) := by decide +kernel
theorem dX0_countNumber_71 : decode cX0_countNumber 71 = .ok (.invokevirtual 151, 3) := by decide +kernel
theorem dX0_countNumber_74 : decode cX0_countNumber 74 = .ok (.ireturn, 1) := by decide +kernel
theorem dX0_countNumber_75 : decode cX0_countNumber 75 = .ok (.aload_n 0, 1) := by decide +kernel
theorem dX0_countNumber_76 : decode cX0_countNumber 76 = .ok (.getfield 45, 3) := by decide +kernel
theorem dX0_countNumber_79 : decode cX0_countNumber 79 = .ok (.ireturn, 1) := by decide +kernel
theorem dX0_countNumber_80 : decode cX0_countNumber 80 = .ok (.aload_n 0, 1) := by decide +kernel
theorem dX0_countNumber_81 : decode cX0_countNumber 81 = .ok (.getfield 48, 3) := by decide +kernel
theorem dX0_countNumber_84 : decode cX0_countNumber 84 = .ok (.ireturn, 1) := by decide +kernel
theorem dX0_countNumber_85 : decode cX0_countNumber 85 = .ok (.aload_n 0, 1) := by decide +kernel
theorem dX0_countNumber_86 : decode cX0_countNumber 86 = .ok (.invokevirtual 154, 3) := by decide +kernel
theorem dX0_countNumber_89 : decode cX0_countNumber 89 = .ok (.ireturn, 1) := by decide +kernel
theorem dX0_countNumber_90 : decode cX0_countNumber 90 = .ok (.aload_n 0, 1) := by decide +kernel
theorem dX0_countNumber_91 : decode cX0_countNumber 91 = .ok (.getfield 51, 3) := by decide +kernel
theorem dX0_countNumber_94 : decode cX0_countNumber 94 = .ok (.ireturn, 1) := by decide +kernel
theorem dX0_countNumber_95 : decode cX0_countNumber 95 = .ok (.aload_n 0, 1) := by decide +kernel
theorem dX0_countNumber_96 : decode cX0_countNumber 96 = .ok (.getfield 54, 3) := by decide +kernel
theorem dX0_countNumber_99 : decode cX0_countNumber 99 = .ok (.ireturn, 1) := by decide +kernel
theorem dX0_countNumber_100 : decode cX0_countNumber 100 = .ok (.aload_n 0, 1) := by decide +kernel
theorem dX0_countNumber_101 : decode cX0_countNumber 101 = .ok (.invokevirtual 156, 3) := by decide +kernel
theorem dX0_countNumber_104 : decode cX0_countNumber 104 = .ok (.ireturn, 1) := by decide +kernel
theorem dX0_countNumber_105 : decode cX0_countNumber 105 = .ok (.aload_n 0, 1) := by decide +kernel
theorem dX0_countNumber_106 : decode cX0_countNumber 106 = .ok (.getfield 57, 3) := by decide +kernel
theorem dX0_countNumber_109 : decode cX0_countNumber 109 = .ok (.ireturn, 1) := by decide +kernel
theorem dX0_countNumber_110 : decode cX0_countNumber 110 = .ok (.aload_n 0, 1) := by decide +kernel
theorem dX0_countNumber_111 : decode cX0_countNumber 111 = .ok (.getfield 60, 3) := by decide +kernel
theorem dX0_countNumber_114 : decode cX0_countNumber 114 = .ok (.ireturn, 1) := by decide +kernel
theorem dX0_countNumber_115 : decode cX0_countNumber 115 = .ok (.aload_n 0, 1) := by decide +kernel
theorem dX0_countNumber_116 : decode cX0_countNumber 116 = .ok (.getfield 63, 3) := by decide +kernel
theorem dX0_countNumber_119 : decode cX0_countNumber 119 = .ok (.ireturn, 1) := by decide +kernel
theorem dX1_init_0 : decode cX1_init 0 = .ok (.aload_n 0, 1) := by decide +kernel
theorem dX1_init_1 : decode cX1_init 1 = .ok (.invokespecial 3, 3) := by decide +kernel
theorem dX1_init_4 : decode cX1_init 4 = .ok (.return_, 1) := by decide +kernel
theorem dX1_copyFrom_0 : decode cX1_copyFrom 0 = .ok (.aload_n 0, 1) := by decide +kernel
theorem dX1_copyFrom_1 : decode cX1_copyFrom 1 = .ok (.aload_n 1, 1) := by decide +kernel
theorem dX1_copyFrom_2 : decode cX1_copyFrom 2 = .ok (.getfield 9, 3) := by decide +kernel
theorem dX1_copyFrom_5 : decode cX1_copyFrom 5 = .ok (.putfield 9, 3) := by decide +kernel
theorem dX1_copyFrom_8 : decode cX1_copyFrom 8 = .ok (.aload_n 0, 1) := by decide +kernel
theorem dX1_copyFrom_9 : decode cX1_copyFrom 9 = .ok (.aload_n 1, 1) := by decide +kernel
theorem dX1_copyFrom_10 : decode cX1_copyFrom 10 = .ok (.getfield 15, 3) := by decide +kernel
theorem dX1_copyFrom_13 : decode cX1_copyFrom 13 = .ok (.putfield 15, 3) := by decide +kernel
theorem dX1_copyFrom_16 : decode cX1_copyFrom 16 = .ok (.aload_n 0, 1) := by decide +kernel
theorem dX1_copyFrom_17 : decode cX1_copyFrom 17 = .ok (.aload_n 1, 1) := by decide +kernel
theorem dX1_copyFrom_18 : decode cX1_copyFrom 18 = .ok (.getfield 18, 3) := by decide +kernel
theorem dX1_copyFrom_21 : decode cX1_copyFrom 21 = .ok (.putfield 18, 3) := by decide +kernel
theorem dX1_copyFrom_24 : decode cX1_copyFrom 24 = .ok (.aload_n 0, 1) := by decide +kernel
theorem dX1_copyFrom_25 : decode cX1_copyFrom 25 = .ok (.aload_n 1, 1) := by decide +kernel
theorem dX1_copyFrom_26 : decode cX1_copyFrom 26 = .ok (.getfield 21, 3) := by decide +kernel
theorem dX1_copyFrom_29 : decode cX1_copyFrom 29 = .ok (.putfield 21, 3) := by decide +kernel
theorem dX1_copyFrom_32 : decode cX1_copyFrom 32 = .ok (.aload_n 0, 1) := by decide +kernel
theorem dX1_copyFrom_33 : decode cX1_copyFrom 33 = .ok (.aload_n 1, 1) := by decide +kernel
theorem dX1_copyFrom_34 : decode cX1_copyFrom 34 = .ok (.getfield 24, 3) := by decide +kernel
theorem dX1_copyFrom_37 : decode cX1_copyFrom 37 = .ok (.putfield 24, 3) := by decide +kernel
theorem dX1_copyFrom_40 : decode cX1_copyFrom 40 = .ok (.aload_n 0, 1) := by decide +kernel
theorem dX1_copyFrom_41 : decode cX1_copyFrom 41 = .ok (.aload_n 1, 1) := by decide +kernel
theorem dX1_copyFrom_42 : decode cX1_copyFrom 42 = .ok (.getfield 27, 3) := by decide +kernel
theorem dX1_copyFrom_45 : decode cX1_copyFrom 45 = .ok (.putfield 27, 3) := by decide +kernel
theorem dX1_copyFrom_48 : decode cX1_copyFrom 48 = .ok (.aload_n 0, 1) := by decide +kernel
theorem dX1_copyFrom_49 : decode cX1_copyFrom 49 = .ok (.aload_n 1, 1) := by decide +kernel
theorem dX1_copyFrom_50 : decode cX1_copyFrom 50 = .ok (.getfield 30, 3) := by decide +kernel
theorem dX1_copyFrom_53 : decode cX1_copyFrom 53 = .ok (.putfield 30, 3) := by decide +kernel
theorem dX1_copyFrom_56 : decode cX1_copyFrom 56 = .ok (.aload_n 0, 1) := by decide +kernel
theorem dX1_copyFrom_57 : decode cX1_copyFrom 57 = .ok (.aload_n 1, 1) := by decide +kernel
theorem dX1_copyFrom_58 : decode cX1_copyFrom 58 = .ok (.getfield 33, 3) := by decide +kernel
theorem dX1_copyFrom_61 : decode cX1_copyFrom 61 = .ok (.putfield 33, 3) := by decide +kernel
theorem dX1_copyFrom_64 : decode cX1_copyFrom 64 = .ok (.aload_n 0, 1) := by decide +kernel
theorem dX1_copyFrom_65 : decode cX1_copyFrom 65 = .ok (.aload_n 1, 1) := by decide +kernel
theorem dX1_copyFrom_66 : decode cX1_copyFrom 66 = .ok (.getfield 36, 3) := by decide +kernel
theorem dX1_copyFrom_69 : decode cX1_copyFrom 69 = .ok (.putfield 36, 3) := by decide +kernel
theorem dX1_copyFrom_72 : decode cX1_copyFrom 72 = .ok (.aload_n 0, 1) := by decide +kernel
theorem dX1_copyFrom_73 : decode cX1_copyFrom 73 = .ok (.aload_n 1, 1) := by decide +kernel
theorem dX1_copyFrom_74 : decode cX1_copyFrom 74 = .ok (.getfield 39, 3) := by decide +kernel
theorem dX1_copyFrom_77 : decode cX1_copyFrom 77 = .ok (.putfield 39, 3) := by decide +kernel
theorem dX1_copyFrom_80 : decode cX1_copyFrom 80 = .ok (.return_, 1) := by decide +kernel
theorem dX1_hasMill_0 : decode cX1_hasMill 0 = .ok (.aload_n 0, 1) := by decide +kernel
theorem dX1_hasMill_1 : decode cX1_hasMill 1 = .ok (.getfield 30, 3) := by decide +kernel
theorem dX1_hasMill_4 : decode cX1_hasMill 4 = .ok (.ifCond .le 7, 3) := by decide +kernel
theorem dX1_hasMill_7 : decode cX1_hasMill 7 = .ok (.iconst 1, 1) := by decide +kernel
theorem dX1_hasMill_8 : decode cX1_hasMill 8 = .ok (.goto 4, 3) := by decide +kernel
theorem dX1_hasMill_11 : decode cX1_hasMill 11 = .ok (.iconst 0, 1) := by decide +kernel
theorem dX1_hasMill_12 : decode cX1_hasMill 12 = .ok (.ireturn, 1) := by decide +kernel
theorem dX1_hasOpenSluice_0 : decode cX1_hasOpenSluice 0 = .ok (.aload_n 0, 1) := by decide +kernel
theorem dX1_hasOpenSluice_1 : decode cX1_hasOpenSluice 1 = .ok (.invokevirtual 42, 3) := by decide +kernel
theorem dX1_hasOpenSluice_4 : decode cX1_hasOpenSluice 4 = .ok (.ifCond .eq 14, 3) := by decide +kernel
theorem dX1_hasOpenSluice_7 : decode cX1_hasOpenSluice 7 = .ok (.aload_n 0, 1) := by decide +kernel
theorem dX1_hasOpenSluice_8 : decode cX1_hasOpenSluice 8 = .ok (.getfield 33, 3) := by decide +kernel
theorem dX1_hasOpenSluice_11 : decode cX1_hasOpenSluice 11 = .ok (.ifCond .le 7, 3) := by decide +kernel
theorem dX1_hasOpenSluice_14 : decode cX1_hasOpenSluice 14 = .ok (.iconst 1, 1) := by decide +kernel
theorem dX1_hasOpenSluice_15 : decode cX1_hasOpenSluice 15 = .ok (.goto 4, 3) := by decide +kernel
theorem dX1_hasOpenSluice_18 : decode cX1_hasOpenSluice 18 = .ok (.iconst 0, 1) := by decide +kernel
theorem dX1_hasOpenSluice_19 : decode cX1_hasOpenSluice 19 = .ok (.ireturn, 1) := by decide +kernel
theorem dX1_fill_0 : decode cX1_fill 0 = .ok (.iload_n 1, 1) := by decide +kernel
theorem dX1_fill_1 : decode cX1_fill 1 = .ok (.aload_n 0, 1) := by decide +kernel
theorem dX1_fill_2 : decode cX1_fill 2 = .ok (.getfield 15, 3) := by decide +kernel
theorem dX1_fill_5 : decode cX1_fill 5 = .ok (.aload_n 0, 1) := by decide +kernel
theorem dX1_fill_6 : decode cX1_fill 6 = .ok (.getfield 18, 3) := by decide +kernel
theorem dX1_fill_9 : decode cX1_fill 9 = .ok (.isub, 1) := by decide +kernel
theorem dX1_fill_10 : decode cX1_fill 10 = .ok (.invokestatic 46, 3) := by decide +kernel
theorem dX1_fill_13 : decode cX1_fill 13 = .ok (.istore_n 2, 1) := by decide +kernel
theorem dX1_fill_14 : decode cX1_fill 14 = .ok (.aload_n 0, 1) := by decide +kernel
theorem dX1_fill_15 : decode cX1_fill 15 = .ok (.dup, 1) := by decide +kernel
theorem dX1_fill_16 : decode cX1_fill 16 = .ok (.getfield 18, 3) := by decide +kernel
theorem dX1_fill_19 : decode cX1_fill 19 = .ok (.iload_n 2, 1) := by decide +kernel
theorem dX1_fill_20 : decode cX1_fill 20 = .ok (.iadd, 1) := by decide +kernel
theorem dX1_fill_21 : decode cX1_fill 21 = .ok (.putfield 18, 3) := by decide +kernel
theorem dX1_fill_24 : decode cX1_fill 24 = .ok (.iload_n 2, 1) := by decide +kernel
theorem dX1_fill_25 : decode cX1_fill 25 = .ok (.ireturn, 1) := by decide +kernel
theorem dX1_leadToMill_0 : decode cX1_leadToMill 0 = .ok (.aload_n 0, 1) := by decide +kernel
theorem dX1_leadToMill_1 : decode cX1_leadToMill 1 = .ok (.iload_n 1, 1) := by decide +kernel
theorem dX1_leadToMill_2 : decode cX1_leadToMill 2 = .ok (.aload_n 0, 1) := by decide +kernel
theorem dX1_leadToMill_3 : decode cX1_leadToMill 3 = .ok (.getfield 33, 3) := by decide +kernel
theorem dX1_leadToMill_6 : decode cX1_leadToMill 6 = .ok (.imul, 1) := by decide +kernel
theorem dX1_leadToMill_7 : decode cX1_leadToMill 7 = .ok (.bipush 10, 2) := by decide +kernel
theorem dX1_leadToMill_9 : decode cX1_leadToMill 9 = .ok (.idiv, 1) := by decide +kernel
theorem dX1_leadToMill_10 : decode cX1_leadToMill 10 = .ok (.aload_n 0, 1) := by decide +kernel
theorem dX1_leadToMill_11 : decode cX1_leadToMill 11 = .ok (.getfield 30, 3) := by decide +kernel
theorem dX1_leadToMill_14 : decode cX1_leadToMill 14 = .ok (.invokestatic 46, 3) := by decide +kernel
theorem dX1_leadToMill_17 : decode cX1_leadToMill 17 = .ok (.putfield 39, 3) := by decide +kernel
theorem dX1_leadToMill_20 : decode cX1_leadToMill 20 = .ok (.aload_n 0, 1) := by decide +kernel
theorem dX1_leadToMill_21 : decode cX1_leadToMill 21 = .ok (.dup, 1) := by decide +kernel
theorem dX1_leadToMill_22 : decode cX1_leadToMill 22 = .ok (.getfield 18, 3) := by decide +kernel
theorem dX1_leadToMill_25 : decode cX1_leadToMill 25 = .ok (.aload_n 0, 1) := by decide +kernel
theorem dX1_leadToMill_26 : decode cX1_leadToMill 26 = .ok (.getfield 39, 3) := by decide +kernel
theorem dX1_leadToMill_29 : decode cX1_leadToMill 29 = .ok (.isub, 1) := by decide +kernel
theorem dX1_leadToMill_30 : decode cX1_leadToMill 30 = .ok (.putfield 18, 3) := by decide +kernel
theorem dX1_leadToMill_33 : decode cX1_leadToMill 33 = .ok (.iload_n 1, 1) := by decide +kernel
theorem dX1_leadToMill_34 : decode cX1_leadToMill 34 = .ok (.aload_n 0, 1) := by decide +kernel
theorem dX1_leadToMill_35 : decode cX1_leadToMill 35 = .ok (.getfield 39, 3) := by decide +kernel
theorem dX1_leadToMill_38 : decode cX1_leadToMill 38 = .ok (.isub, 1) := by decide +kernel
theorem dX1_leadToMill_39 : decode cX1_leadToMill 39 = .ok (.ireturn, 1) := by decide +kernel
theorem dX1_grind_0 : decode cX1_grind 0 = .ok (.aload_n 0, 1) := by decide +kernel
theorem dX1_grind_1 : decode cX1_grind 1 = .ok (.getfield 36, 3) := by decide +kernel
theorem dX1_grind_4 : decode cX1_grind 4 = .ok (.bipush 10, 2) := by decide +kernel
theorem dX1_grind_6 : decode cX1_grind 6 = .ok (.idiv, 1) := by decide +kernel
theorem dX1_grind_7 : decode cX1_grind 7 = .ok (.istore_n 1, 1) := by decide +kernel
theorem dX1_grind_8 : decode cX1_grind 8 = .ok (.aload_n 0, 1) := by decide +kernel
theorem dX1_grind_9 : decode cX1_grind 9 = .ok (.dup, 1) := by decide +kernel
theorem dX1_grind_10 : decode cX1_grind 10 = .ok (.getfield 36, 3) := by decide +kernel
theorem dX1_grind_13 : decode cX1_grind 13 = .ok (.aload_n 0, 1) := by decide +kernel
theorem dX1_grind_14 : decode cX1_grind 14 = .ok (.getfield 39, 3) := by decide +kernel
theorem dX1_grind_17 : decode cX1_grind 17 = .ok (.iadd, 1) := by decide +kernel
theorem dX1_grind_18 : decode cX1_grind 18 = .ok (.putfield 36, 3) := by decide +kernel
theorem dX1_grind_21 : decode cX1_grind 21 = .ok (.aload_n 0, 1) := by decide +kernel
theorem dX1_grind_22 : decode cX1_grind 22 = .ok (.getfield 36, 3) := by decide +kernel
theorem dX1_grind_25 : decode cX1_grind 25 = .ok (.bipush 10, 2) := by decide +kernel
theorem dX1_grind_27 : decode cX1_grind 27 = .ok (.idiv, 1) := by decide +kernel
theorem dX1_grind_28 : decode cX1_grind 28 = .ok (.iload_n 1, 1) := by decide +kernel
theorem dX1_grind_29 : decode cX1_grind 29 = .ok (.isub, 1) := by decide +kernel
theorem dX1_grind_30 : decode cX1_grind 30 = .ok (.ireturn, 1) := by decide +kernel
theorem dX1_leak_0 : decode cX1_leak 0 = .ok (.aload_n 0, 1) := by decide +kernel
theorem dX1_leak_1 : decode cX1_leak 1 = .ok (.dup, 1) := by decide +kernel
theorem dX1_leak_2 : decode cX1_leak 2 = .ok (.getfield 24, 3) := by decide +kernel
theorem dX1_leak_5 : decode cX1_leak 5 = .ok (.aload_n 0, 1) := by decide +kernel
theorem dX1_leak_6 : decode cX1_leak 6 = .ok (.getfield 18, 3) := by decide +kernel
theorem dX1_leak_9 : decode cX1_leak 9 = .ok (.aload_n 0, 1) := by decide +kernel
theorem dX1_leak_10 : decode cX1_leak 10 = .ok (.getfield 21, 3) := by decide +kernel
theorem dX1_leak_13 : decode cX1_leak 13 = .ok (.imul, 1) := by decide +kernel
theorem dX1_leak_14 : decode cX1_leak 14 = .ok (.bipush 10, 2) := by decide +kernel
theorem dX1_leak_16 : decode cX1_leak 16 = .ok (.idiv, 1) := by decide +kernel
theorem dX1_leak_17 : decode cX1_leak 17 = .ok (.iadd, 1) := by decide +kernel
theorem dX1_leak_18 : decode cX1_leak 18 = .ok (.putfield 24, 3) := by decide +kernel
theorem dX1_leak_21 : decode cX1_leak 21 = .ok (.aload_n 0, 1) := by decide +kernel
theorem dX1_leak_22 : decode cX1_leak 22 = .ok (.getfield 24, 3) := by decide +kernel
theorem dX1_leak_25 : decode cX1_leak 25 = .ok (.bipush 10, 2) := by decide +kernel
theorem dX1_leak_27 : decode cX1_leak 27 = .ok (.idiv, 1) := by decide +kernel
theorem dX1_leak_28 : decode cX1_leak 28 = .ok (.aload_n 0, 1) := by decide +kernel
theorem dX1_leak_29 : decode cX1_leak 29 = .ok (.getfield 18, 3) := by decide +kernel
theorem dX1_leak_32 : decode cX1_leak 32 = .ok (.invokestatic 46, 3) := by decide +kernel
theorem dX1_leak_35 : decode cX1_leak 35 = .ok (.istore_n 1, 1) := by decide +kernel
theorem dX1_leak_36 : decode cX1_leak 36 = .ok (.aload_n 0, 1) := by decide +kernel
theorem dX1_leak_37 : decode cX1_leak 37 = .ok (.dup, 1) := by decide +kernel
theorem dX1_leak_38 : decode cX1_leak 38 = .ok (.getfield 24, 3) := by decide +kernel
theorem dX1_leak_41 : decode cX1_leak 41 = .ok (.bipush 10, 2) := by decide +kernel
theorem dX1_leak_43 : decode cX1_leak 43 = .ok (.irem, 1) := by decide +kernel
theorem dX1_leak_44 : decode cX1_leak 44 = .ok (.putfield 24, 3) := by decide +kernel
theorem dX1_leak_47 : decode cX1_leak 47 = .ok (.aload_n 0, 1) := by decide +kernel
theorem dX1_leak_48 : decode cX1_leak 48 = .ok (.dup, 1) := by decide +kernel
theorem dX1_leak_49 : decode cX1_leak 49 = .ok (.getfield 18, 3) := by decide +kernel
theorem dX1_leak_52 : decode cX1_leak 52 = .ok (.iload_n 1, 1) := by decide +kernel
theorem dX1_leak_53 : decode cX1_leak 53 = .ok (.isub, 1) := by decide +kernel
theorem dX1_leak_54 : decode cX1_leak 54 = .ok (.putfield 18, 3) := by decide +kernel
theorem dX1_leak_57 : decode cX1_leak 57 = .ok (.aload_n 0, 1) := by decide +kernel
theorem dX1_leak_58 : decode cX1_leak 58 = .ok (.dup, 1) := by decide +kernel
theorem dX1_leak_59 : decode cX1_leak 59 = .ok (.getfield 27, 3) := by decide +kernel
theorem dX1_leak_62 : decode cX1_leak 62 = .ok (.iload_n 1, 1) := by decide +kernel
theorem dX1_leak_63 : decode cX1_leak 63 = .ok (.iadd, 1) := by decide +kernel
theorem dX1_leak_64 : decode cX1_leak 64 = .ok (.putfield 27, 3) := by decide +kernel
theorem dX1_leak_67 : decode cX1_leak 67 = .ok (.return_, 1) := by decide +kernel
theorem dX1_wearOfDay_0 : decode cX1_wearOfDay 0 = .ok (.aload_n 0, 1) := by decide +kernel
theorem dX1_wearOfDay_1 : decode cX1_wearOfDay 1 = .ok (.getfield 18, 3) := by decide +kernel
theorem dX1_wearOfDay_4 : decode cX1_wearOfDay 4 = .ok (.ifCond .le 19, 3) := by decide +kernel
theorem dX1_wearOfDay_7 : decode cX1_wearOfDay 7 = .ok (.aload_n 0, 1) := by decide +kernel
theorem dX1_wearOfDay_8 : decode cX1_wearOfDay 8 = .ok (.aload_n 0, 1) := by decide +kernel
theorem dX1_wearOfDay_9 : decode cX1_wearOfDay 9 = .ok (.invokevirtual 52, 3) := by decide +kernel
theorem dX1_wearOfDay_12 : decode cX1_wearOfDay 12 = .ok (.ifCond .eq 7, 3) := by decide +kernel
theorem dX1_wearOfDay_15 : decode cX1_wearOfDay 15 = .ok (.iconst 2, 1) := by decide +kernel
theorem dX1_wearOfDay_16 : decode cX1_wearOfDay 16 = .ok (.goto 4, 3) := by decide +kernel
theorem dX1_wearOfDay_19 : decode cX1_wearOfDay 19 = .ok (.iconst 1, 1) := by decide +kernel
theorem dX1_wearOfDay_20 : decode cX1_wearOfDay 20 = .ok (.invokevirtual 55, 3) := by decide +kernel
theorem dX1_wearOfDay_23 : decode cX1_wearOfDay 23 = .ok (.return_, 1) := by decide +kernel
theorem dX1_wearBy_0 : decode cX1_wearBy 0 = .ok (.aload_n 0, 1) := by decide +kernel
theorem dX1_wearBy_1 : decode cX1_wearBy 1 = .ok (.bipush 50, 2) := by decide +kernel
theorem dX1_wearBy_3 : decode cX1_wearBy 3 = .ok (.aload_n 0, 1) := by decide +kernel
theorem dX1_wearBy_4 : decode cX1_wearBy 4 = .ok (.getfield 21, 3) := by decide +kernel
theorem dX1_wearBy_7 : decode cX1_wearBy 7 = .ok (.iload_n 1, 1) := by decide +kernel
theorem dX1_wearBy_8 : decode cX1_wearBy 8 = .ok (.iadd, 1) := by decide +kernel
theorem dX1_wearBy_9 : decode cX1_wearBy 9 = .ok (.invokestatic 46, 3) := by decide +kernel
theorem dX1_wearBy_12 : decode cX1_wearBy 12 = .ok (.putfield 21, 3) := by decide +kernel
theorem dX1_wearBy_15 : decode cX1_wearBy 15 = .ok (.return_, 1) := by decide +kernel
theorem dX1_millNumber_0 : decode cX1_millNumber 0 = .ok (.aload_n 0, 1) := by decide +kernel
theorem dX1_millNumber_1 : decode cX1_millNumber 1 = .ok (.invokevirtual 42, 3) := by decide +kernel
theorem dX1_millNumber_4 : decode cX1_millNumber 4 = .ok (.ifCond .ne 5, 3) := by decide +kernel
theorem dX1_millNumber_7 : decode cX1_millNumber 7 = .ok (.iconst (-1), 1) := by decide +kernel
theorem dX1_millNumber_8 : decode cX1_millNumber 8 = .ok (.ireturn, 1) := by decide +kernel
theorem dX1_millNumber_9 : decode cX1_millNumber 9 = .ok (.iload_n 1, 1) := by decide +kernel
theorem dX1_millNumber_10 : decode cX1_millNumber 10 = .ok (.tableswitch 41 0 2 #[26, 31, 36], 26) := by decide +kernel
theorem dX1_millNumber_36 : decode cX1_millNumber 36 = .ok (.aload_n 0, 1) := by decide +kernel
theorem dX1_millNumber_37 : decode cX1_millNumber 37 = .ok (.getfield 30, 3) := by decide +kernel
theorem dX1_millNumber_40 : decode cX1_millNumber 40 = .ok (.ireturn, 1) := by decide +kernel
theorem dX1_millNumber_41 : decode cX1_millNumber 41 = .ok (.aload_n 0, 1) := by decide +kernel
theorem dX1_millNumber_42 : decode cX1_millNumber 42 = .ok (.getfield 33, 3) := by decide +kernel
theorem dX1_millNumber_45 : decode cX1_millNumber 45 = .ok (.ireturn, 1) := by decide +kernel
theorem dX1_millNumber_46 : decode cX1_millNumber 46 = .ok (.aload_n 0, 1) := by decide +kernel
theorem dX1_millNumber_47 : decode cX1_millNumber 47 = .ok (.getfield 36, 3) := by decide +kernel
theorem dX1_millNumber_50 : decode cX1_millNumber 50 = .ok (.ireturn, 1) := by decide +kernel
theorem dX1_millNumber_51 : decode cX1_millNumber 51 = .ok (.aload_n 0, 1) := by decide +kernel
theorem dX1_millNumber_52 : decode cX1_millNumber 52 = .ok (.getfield 39, 3) := by decide +kernel
theorem dX1_millNumber_55 : decode cX1_millNumber 55 = .ok (.ireturn, 1) := by decide +kernel
theorem dX2_init_0 : decode cX2_init 0 = .ok (.aload_n 0, 1) := by decide +kernel
theorem dX2_init_1 : decode cX2_init 1 = .ok (.invokespecial 1, 3) := by decide +kernel
theorem dX2_init_4 : decode cX2_init 4 = .ok (.aload_n 0, 1) := by decide +kernel
theorem dX2_init_5 : decode cX2_init 5 = .ok (.new 7, 3) := by decide +kernel
theorem dX2_init_8 : decode cX2_init 8 = .ok (.dup, 1) := by decide +kernel
theorem dX2_init_9 : decode cX2_init 9 = .ok (.invokespecial 9, 3) := by decide +kernel
theorem dX2_init_12 : decode cX2_init 12 = .ok (.putfield 10, 3) := by decide +kernel
theorem dX2_init_15 : decode cX2_init 15 = .ok (.aload_n 0, 1) := by decide +kernel
theorem dX2_init_16 : decode cX2_init 16 = .ok (.new 7, 3) := by decide +kernel
theorem dX2_init_19 : decode cX2_init 19 = .ok (.dup, 1) := by decide +kernel
theorem dX2_init_20 : decode cX2_init 20 = .ok (.invokespecial 9, 3) := by decide +kernel
theorem dX2_init_23 : decode cX2_init 23 = .ok (.putfield 16, 3) := by decide +kernel
theorem dX2_init_26 : decode cX2_init 26 = .ok (.return_, 1) := by decide +kernel
theorem dX2_build_0 : decode cX2_build 0 = .ok (.iload_n 1, 1) := by decide +kernel
theorem dX2_build_1 : decode cX2_build 1 = .ok (.iconst 0, 1) := by decide +kernel
theorem dX2_build_2 : decode cX2_build 2 = .ok (.aload_n 0, 1) := by decide +kernel
theorem dX2_build_3 : decode cX2_build 3 = .ok (.getfield 10, 3) := by decide +kernel
theorem dX2_build_6 : decode cX2_build 6 = .ok (.invokevirtual 19, 3) := by decide +kernel
theorem dX2_build_9 : decode cX2_build 9 = .ok (.invokestatic 23, 3) := by decide +kernel
theorem dX2_build_12 : decode cX2_build 12 = .ok (.iload_n 2, 1) := by decide +kernel
theorem dX2_build_13 : decode cX2_build 13 = .ok (.iconst 1, 1) := by decide +kernel
theorem dX2_build_14 : decode cX2_build 14 = .ok (.bipush 40, 2) := by decide +kernel
theorem dX2_build_16 : decode cX2_build 16 = .ok (.invokestatic 23, 3) := by decide +kernel
theorem dX2_build_19 : decode cX2_build 19 = .ok (.aload_n 0, 1) := by decide +kernel
theorem dX2_build_20 : decode cX2_build 20 = .ok (.getfield 10, 3) := by decide +kernel
theorem dX2_build_23 : decode cX2_build 23 = .ok (.getfield 27, 3) := by decide +kernel
theorem dX2_build_26 : decode cX2_build 26 = .ok (.bipush 20, 2) := by decide +kernel
theorem dX2_build_28 : decode cX2_build 28 = .ok (.if_icmp .lt 13, 3) := by decide +kernel
theorem dX2_build_31 : decode cX2_build 31 = .ok (.new 31, 3) := by decide +kernel
theorem dX2_build_34 : decode cX2_build 34 = .ok (.dup, 1) := by decide +kernel
theorem dX2_build_35 : decode cX2_build 35 = .ok (.ldc 33, 2) := by decide +kernel
theorem dX2_build_37 : decode cX2_build 37 = .ok (.invokespecial 35, 3) := by decide +kernel
theorem dX2_build_40 : decode cX2_build 40 = .ok (.athrow, 1) := by decide +kernel
theorem dX2_build_41 : decode cX2_build 41 = .ok (.aload_n 0, 1) := by decide +kernel
theorem dX2_build_42 : decode cX2_build 42 = .ok (.getfield 10, 3) := by decide +kernel
theorem dX2_build_45 : decode cX2_build 45 = .ok (.iload_n 1, 1) := by decide +kernel
theorem dX2_build_46 : decode cX2_build 46 = .ok (.iload_n 2, 1) := by decide +kernel
theorem dX2_build_47 : decode cX2_build 47 = .ok (.invokevirtual 38, 3) := by decide +kernel
theorem dX2_build_50 : decode cX2_build 50 = .ok (.ireturn, 1) := by decide +kernel
theorem dX2_setSpring_0 : decode cX2_setSpring 0 = .ok (.aload_n 0, 1) := by decide +kernel
theorem dX2_setSpring_1 : decode cX2_setSpring 1 = .ok (.getfield 10, 3) := by decide +kernel
theorem dX2_setSpring_4 : decode cX2_setSpring 4 = .ok (.getfield 42, 3) := by decide +kernel
theorem dX2_setSpring_7 : decode cX2_setSpring 7 = .ok (.iload_n 1, 1) := by decide +kernel
theorem dX2_setSpring_8 : decode cX2_setSpring 8 = .ok (.iload_n 2, 1) := by decide +kernel
theorem dX2_setSpring_9 : decode cX2_setSpring 9 = .ok (.invokestatic 46, 3) := by decide +kernel
theorem dX2_setSpring_12 : decode cX2_setSpring 12 = .ok (.ireturn, 1) := by decide +kernel
theorem dX2_setCity_0 : decode cX2_setCity 0 = .ok (.aload_n 0, 1) := by decide +kernel
theorem dX2_setCity_1 : decode cX2_setCity 1 = .ok (.getfield 10, 3) := by decide +kernel
theorem dX2_setCity_4 : decode cX2_setCity 4 = .ok (.getfield 50, 3) := by decide +kernel
theorem dX2_setCity_7 : decode cX2_setCity 7 = .ok (.iload_n 1, 1) := by decide +kernel
theorem dX2_setCity_8 : decode cX2_setCity 8 = .ok (.iload_n 2, 1) := by decide +kernel
theorem dX2_setCity_9 : decode cX2_setCity 9 = .ok (.invokestatic 46, 3) := by decide +kernel
theorem dX2_setCity_12 : decode cX2_setCity 12 = .ok (.ireturn, 1) := by decide +kernel
theorem dX2_setCistern_0 : decode cX2_setCistern 0 = .ok (.iload_n 1, 1) := by decide +kernel
theorem dX2_setCistern_1 : decode cX2_setCistern 1 = .ok (.iconst 0, 1) := by decide +kernel
theorem dX2_setCistern_2 : decode cX2_setCistern 2 = .ok (.sipush 500, 3) := by decide +kernel
theorem dX2_setCistern_5 : decode cX2_setCistern 5 = .ok (.invokestatic 23, 3) := by decide +kernel
theorem dX2_setCistern_8 : decode cX2_setCistern 8 = .ok (.aload_n 0, 1) := by decide +kernel
theorem dX2_setCistern_9 : decode cX2_setCistern 9 = .ok (.getfield 10, 3) := by decide +kernel
theorem dX2_setCistern_12 : decode cX2_setCistern 12 = .ok (.iload_n 1, 1) := by decide +kernel
theorem dX2_setCistern_13 : decode cX2_setCistern 13 = .ok (.invokevirtual 53, 3) := by decide +kernel
theorem dX2_setCistern_16 : decode cX2_setCistern 16 = .ok (.ireturn, 1) := by decide +kernel
theorem dX2_arch_0 : decode cX2_arch 0 = .ok (.aload_n 0, 1) := by decide +kernel
theorem dX2_arch_1 : decode cX2_arch 1 = .ok (.iload_n 1, 1) := by decide +kernel
theorem dX2_arch_2 : decode cX2_arch 2 = .ok (.invokevirtual 57, 3) := by decide +kernel
theorem dX2_arch_5 : decode cX2_arch 5 = .ok (.iload_n 2, 1) := by decide +kernel
theorem dX2_arch_6 : decode cX2_arch 6 = .ok (.bipush 9, 2) := by decide +kernel
theorem dX2_arch_8 : decode cX2_arch 8 = .ok (.invokestatic 61, 3) := by decide +kernel
theorem dX2_arch_11 : decode cX2_arch 11 = .ok (.aload_n 0, 1) := by decide +kernel
theorem dX2_arch_12 : decode cX2_arch 12 = .ok (.getfield 10, 3) := by decide +kernel
theorem dX2_arch_15 : decode cX2_arch 15 = .ok (.iload_n 1, 1) := by decide +kernel
theorem dX2_arch_16 : decode cX2_arch 16 = .ok (.iload_n 2, 1) := by decide +kernel
theorem dX2_arch_17 : decode cX2_arch 17 = .ok (.invokevirtual 65, 3) := by decide +kernel
theorem dX2_arch_20 : decode cX2_arch 20 = .ok (.ireturn, 1) := by decide +kernel
theorem dX2_addMill_0 : decode cX2_addMill 0 = .ok (.aload_n 0, 1) := by decide +kernel
theorem dX2_addMill_1 : decode cX2_addMill 1 = .ok (.iload_n 1, 1) := by decide +kernel
theorem dX2_addMill_2 : decode cX2_addMill 2 = .ok (.invokevirtual 57, 3) := by decide +kernel
theorem dX2_addMill_5 : decode cX2_addMill 5 = .ok (.iload_n 2, 1) := by decide +kernel
theorem dX2_addMill_6 : decode cX2_addMill 6 = .ok (.iconst 1, 1) := by decide +kernel
theorem dX2_addMill_7 : decode cX2_addMill 7 = .ok (.bipush 30, 2) := by decide +kernel
theorem dX2_addMill_9 : decode cX2_addMill 9 = .ok (.invokestatic 23, 3) := by decide +kernel
theorem dX2_addMill_12 : decode cX2_addMill 12 = .ok (.aload_n 0, 1) := by decide +kernel
theorem dX2_addMill_13 : decode cX2_addMill 13 = .ok (.getfield 10, 3) := by decide +kernel
theorem dX2_addMill_16 : decode cX2_addMill 16 = .ok (.iload_n 1, 1) := by decide +kernel
theorem dX2_addMill_17 : decode cX2_addMill 17 = .ok (.invokevirtual 68, 3) := by decide +kernel
theorem dX2_addMill_20 : decode cX2_addMill 20 = .ok (.astore_n 3, 1) := by decide +kernel
theorem dX2_addMill_21 : decode cX2_addMill 21 = .ok (.aload_n 3, 1) := by decide +kernel
theorem dX2_addMill_22 : decode cX2_addMill 22 = .ok (.invokevirtual 72, 3) := by decide +kernel
theorem dX2_addMill_25 : decode cX2_addMill 25 = .ok (.ifCond .eq 13, 3) := by decide +kernel
theorem dX2_addMill_28 : decode cX2_addMill 28 = .ok (.new 31, 3) := by decide +kernel
theorem dX2_addMill_31 : decode cX2_addMill 31 = .ok (.dup, 1) := by decide +kernel
theorem dX2_addMill_32 : decode cX2_addMill 32 = .ok (.ldc 78, 2) := by decide +kernel
theorem dX2_addMill_34 : decode cX2_addMill 34 = .ok (.invokespecial 35, 3) := by decide +kernel
theorem dX2_addMill_37 : decode cX2_addMill 37 = .ok (.athrow, 1) := by decide +kernel
theorem dX2_addMill_38 : decode cX2_addMill 38 = .ok (.aload_n 3, 1) := by decide +kernel
theorem dX2_addMill_39 : decode cX2_addMill 39 = .ok (.iload_n 2, 1) := by decide +kernel
theorem dX2_addMill_40 : decode cX2_addMill 40 = .ok (.putfield 80, 3) := by decide +kernel
theorem dX2_addMill_43 : decode cX2_addMill 43 = .ok (.aload_n 0, 1) := by decide +kernel
theorem dX2_addMill_44 : decode cX2_addMill 44 = .ok (.getfield 10, 3) := by decide +kernel
theorem dX2_addMill_47 : decode cX2_addMill 47 = .ok (.invokevirtual 83, 3) := by decide +kernel
theorem dX2_addMill_50 : decode cX2_addMill 50 = .ok (.ireturn, 1) := by decide +kernel
theorem dX2_setSluice_0 : decode cX2_setSluice 0 = .ok (.aload_n 0, 1) := by decide +kernel
theorem dX2_setSluice_1 : decode cX2_setSluice 1 = .ok (.iload_n 1, 1) := by decide +kernel
theorem dX2_setSluice_2 : decode cX2_setSluice 2 = .ok (.invokevirtual 57, 3) := by decide +kernel
theorem dX2_setSluice_5 : decode cX2_setSluice 5 = .ok (.iload_n 2, 1) := by decide +kernel
theorem dX2_setSluice_6 : decode cX2_setSluice 6 = .ok (.iconst 0, 1) := by decide +kernel
theorem dX2_setSluice_7 : decode cX2_setSluice 7 = .ok (.bipush 10, 2) := by decide +kernel
theorem dX2_setSluice_9 : decode cX2_setSluice 9 = .ok (.invokestatic 23, 3) := by decide +kernel
theorem dX2_setSluice_12 : decode cX2_setSluice 12 = .ok (.aload_n 0, 1) := by decide +kernel
theorem dX2_setSluice_13 : decode cX2_setSluice 13 = .ok (.getfield 10, 3) := by decide +kernel
theorem dX2_setSluice_16 : decode cX2_setSluice 16 = .ok (.iload_n 1, 1) := by decide +kernel
theorem dX2_setSluice_17 : decode cX2_setSluice 17 = .ok (.invokevirtual 68, 3) := by decide +kernel
theorem dX2_setSluice_20 : decode cX2_setSluice 20 = .ok (.astore_n 3, 1) := by decide +kernel
theorem dX2_setSluice_21 : decode cX2_setSluice 21 = .ok (.aload_n 3, 1) := by decide +kernel
theorem dX2_setSluice_22 : decode cX2_setSluice 22 = .ok (.invokevirtual 72, 3) := by decide +kernel
theorem dX2_setSluice_25 : decode cX2_setSluice 25 = .ok (.ifCond .ne 13, 3) := by decide +kernel
theorem dX2_setSluice_28 : decode cX2_setSluice 28 = .ok (.new 31, 3) := by decide +kernel
theorem dX2_setSluice_31 : decode cX2_setSluice 31 = .ok (.dup, 1) := by decide +kernel
theorem dX2_setSluice_32 : decode cX2_setSluice 32 = .ok (.ldc 86, 2) := by decide +kernel
theorem dX2_setSluice_34 : decode cX2_setSluice 34 = .ok (.invokespecial 35, 3) := by decide +kernel
theorem dX2_setSluice_37 : decode cX2_setSluice 37 = .ok (.athrow, 1) := by decide +kernel
theorem dX2_setSluice_38 : decode cX2_setSluice 38 = .ok (.aload_n 3, 1) := by decide +kernel
theorem dX2_setSluice_39 : decode cX2_setSluice 39 = .ok (.getfield 88, 3) := by decide +kernel
theorem dX2_setSluice_42 : decode cX2_setSluice 42 = .ok (.istore 4, 2) := by decide +kernel
theorem dX2_setSluice_44 : decode cX2_setSluice 44 = .ok (.aload_n 3, 1) := by decide +kernel
theorem dX2_setSluice_45 : decode cX2_setSluice 45 = .ok (.iload_n 2, 1) := by decide +kernel
theorem dX2_setSluice_46 : decode cX2_setSluice 46 = .ok (.putfield 88, 3) := by decide +kernel
theorem dX2_setSluice_49 : decode cX2_setSluice 49 = .ok (.iload 4, 2) := by decide +kernel
theorem dX2_setSluice_51 : decode cX2_setSluice 51 = .ok (.ireturn, 1) := by decide +kernel
theorem dX2_mill_0 : decode cX2_mill 0 = .ok (.aload_n 0, 1) := by decide +kernel
theorem dX2_mill_1 : decode cX2_mill 1 = .ok (.iload_n 1, 1) := by decide +kernel
theorem dX2_mill_2 : decode cX2_mill 2 = .ok (.invokevirtual 57, 3) := by decide +kernel
theorem dX2_mill_5 : decode cX2_mill 5 = .ok (.iload_n 2, 1) := by decide +kernel
theorem dX2_mill_6 : decode cX2_mill 6 = .ok (.iconst 4, 1) := by decide +kernel
theorem dX2_mill_7 : decode cX2_mill 7 = .ok (.invokestatic 61, 3) := by decide +kernel
theorem dX2_mill_10 : decode cX2_mill 10 = .ok (.aload_n 0, 1) := by decide +kernel
theorem dX2_mill_11 : decode cX2_mill 11 = .ok (.getfield 10, 3) := by decide +kernel
theorem dX2_mill_14 : decode cX2_mill 14 = .ok (.iload_n 1, 1) := by decide +kernel
theorem dX2_mill_15 : decode cX2_mill 15 = .ok (.invokevirtual 68, 3) := by decide +kernel
theorem dX2_mill_18 : decode cX2_mill 18 = .ok (.iload_n 2, 1) := by decide +kernel
theorem dX2_mill_19 : decode cX2_mill 19 = .ok (.invokevirtual 91, 3) := by decide +kernel
theorem dX2_mill_22 : decode cX2_mill 22 = .ok (.ireturn, 1) := by decide +kernel
theorem dX2_mend_0 : decode cX2_mend 0 = .ok (.aload_n 0, 1) := by decide +kernel
theorem dX2_mend_1 : decode cX2_mend 1 = .ok (.iload_n 1, 1) := by decide +kernel
theorem dX2_mend_2 : decode cX2_mend 2 = .ok (.invokevirtual 57, 3) := by decide +kernel
theorem dX2_mend_5 : decode cX2_mend 5 = .ok (.aload_n 0, 1) := by decide +kernel
theorem dX2_mend_6 : decode cX2_mend 6 = .ok (.getfield 10, 3) := by decide +kernel
theorem dX2_mend_9 : decode cX2_mend 9 = .ok (.iload_n 1, 1) := by decide +kernel
theorem dX2_mend_10 : decode cX2_mend 10 = .ok (.invokevirtual 68, 3) := by decide +kernel
theorem dX2_mend_13 : decode cX2_mend 13 = .ok (.astore_n 2, 1) := by decide +kernel
theorem dX2_mend_14 : decode cX2_mend 14 = .ok (.aload_n 0, 1) := by decide +kernel
theorem dX2_mend_15 : decode cX2_mend 15 = .ok (.getfield 10, 3) := by decide +kernel
theorem dX2_mend_18 : decode cX2_mend 18 = .ok (.getfield 94, 3) := by decide +kernel
theorem dX2_mend_21 : decode cX2_mend 21 = .ok (.iconst 1, 1) := by decide +kernel
theorem dX2_mend_22 : decode cX2_mend 22 = .ok (.if_icmp .ge 13, 3) := by decide +kernel
theorem dX2_mend_25 : decode cX2_mend 25 = .ok (.new 31, 3) := by decide +kernel
theorem dX2_mend_28 : decode cX2_mend 28 = .ok (.dup, 1) := by decide +kernel
theorem dX2_mend_29 : decode cX2_mend 29 = .ok (.ldc 97, 2) := by decide +kernel
theorem dX2_mend_31 : decode cX2_mend 31 = .ok (.invokespecial 35, 3) := by decide +kernel
theorem dX2_mend_34 : decode cX2_mend 34 = .ok (.athrow, 1) := by decide +kernel
theorem dX2_mend_35 : decode cX2_mend 35 = .ok (.aload_n 2, 1) := by decide +kernel
theorem dX2_mend_36 : decode cX2_mend 36 = .ok (.getfield 99, 3) := by decide +kernel
theorem dX2_mend_39 : decode cX2_mend 39 = .ok (.ifCond .ne 13, 3) := by decide +kernel
theorem dX2_mend_42 : decode cX2_mend 42 = .ok (.new 31, 3) := by decide +kernel
theorem dX2_mend_45 : decode cX2_mend 45 = .ok (.dup, 1) := by decide +kernel
theorem dX2_mend_46 : decode cX2_mend 46 = .ok (.ldc 102, 2) := by decide +kernel
theorem dX2_mend_48 : decode cX2_mend 48 = .ok (.invokespecial 35, 3) := by decide +kernel
theorem dX2_mend_51 : decode cX2_mend 51 = .ok (.athrow, 1) := by decide +kernel
theorem dX2_mend_52 : decode cX2_mend 52 = .ok (.aload_n 0, 1) := by decide +kernel
theorem dX2_mend_53 : decode cX2_mend 53 = .ok (.getfield 10, 3) := by decide +kernel
theorem dX2_mend_56 : decode cX2_mend 56 = .ok (.dup, 1) := by decide +kernel
theorem dX2_mend_57 : decode cX2_mend 57 = .ok (.getfield 94, 3) := by decide +kernel
theorem dX2_mend_60 : decode cX2_mend 60 = .ok (.iconst 1, 1) := by decide +kernel
theorem dX2_mend_61 : decode cX2_mend 61 = .ok (.isub, 1) := by decide +kernel
theorem dX2_mend_62 : decode cX2_mend 62 = .ok (.putfield 94, 3) := by decide +kernel
theorem dX2_mend_65 : decode cX2_mend 65 = .ok (.aload_n 2, 1) := by decide +kernel
theorem dX2_mend_66 : decode cX2_mend 66 = .ok (.iconst 0, 1) := by decide +kernel
theorem dX2_mend_67 : decode cX2_mend 67 = .ok (.aload_n 2, 1) := by decide +kernel
theorem dX2_mend_68 : decode cX2_mend 68 = .ok (.getfield 99, 3) := by decide +kernel
theorem dX2_mend_71 : decode cX2_mend 71 = .ok (.bipush 10, 2) := by decide +kernel
theorem dX2_mend_73 : decode cX2_mend 73 = .ok (.isub, 1) := by decide +kernel
theorem dX2_mend_74 : decode cX2_mend 74 = .ok (.invokestatic 104, 3) := by decide +kernel
theorem dX2_mend_77 : decode cX2_mend 77 = .ok (.putfield 99, 3) := by decide +kernel
theorem dX2_mend_80 : decode cX2_mend 80 = .ok (.aload_n 2, 1) := by decide +kernel
theorem dX2_mend_81 : decode cX2_mend 81 = .ok (.iconst 0, 1) := by decide +kernel
theorem dX2_mend_82 : decode cX2_mend 82 = .ok (.putfield 109, 3) := by decide +kernel
theorem dX2_mend_85 : decode cX2_mend 85 = .ok (.aload_n 2, 1) := by decide +kernel
theorem dX2_mend_86 : decode cX2_mend 86 = .ok (.getfield 99, 3) := by decide +kernel
theorem dX2_mend_89 : decode cX2_mend 89 = .ok (.ireturn, 1) := by decide +kernel
theorem dX2_quake_0 : decode cX2_quake 0 = .ok (.aload_n 0, 1) := by decide +kernel
theorem dX2_quake_1 : decode cX2_quake 1 = .ok (.iload_n 1, 1) := by decide +kernel
theorem dX2_quake_2 : decode cX2_quake 2 = .ok (.invokevirtual 57, 3) := by decide +kernel
theorem dX2_quake_5 : decode cX2_quake 5 = .ok (.iload_n 2, 1) := by decide +kernel
theorem dX2_quake_6 : decode cX2_quake 6 = .ok (.iconst 1, 1) := by decide +kernel
theorem dX2_quake_7 : decode cX2_quake 7 = .ok (.bipush 50, 2) := by decide +kernel
theorem dX2_quake_9 : decode cX2_quake 9 = .ok (.invokestatic 23, 3) := by decide +kernel
theorem dX2_quake_12 : decode cX2_quake 12 = .ok (.aload_n 0, 1) := by decide +kernel
theorem dX2_quake_13 : decode cX2_quake 13 = .ok (.getfield 10, 3) := by decide +kernel
theorem dX2_quake_16 : decode cX2_quake 16 = .ok (.iload_n 1, 1) := by decide +kernel
theorem dX2_quake_17 : decode cX2_quake 17 = .ok (.invokevirtual 68, 3) := by decide +kernel
theorem dX2_quake_20 : decode cX2_quake 20 = .ok (.astore_n 3, 1) := by decide +kernel
theorem dX2_quake_21 : decode cX2_quake 21 = .ok (.aload_n 3, 1) := by decide +kernel
theorem dX2_quake_22 : decode cX2_quake 22 = .ok (.iload_n 2, 1) := by decide +kernel
theorem dX2_quake_23 : decode cX2_quake 23 = .ok (.invokevirtual 112, 3) := by decide +kernel
theorem dX2_quake_26 : decode cX2_quake 26 = .ok (.aload_n 3, 1) := by decide +kernel
theorem dX2_quake_27 : decode cX2_quake 27 = .ok (.getfield 99, 3) := by decide +kernel
theorem dX2_quake_30 : decode cX2_quake 30 = .ok (.ireturn, 1) := by decide +kernel
theorem dX2_pass_0 : decode cX2_pass 0 = .ok (.iload_n 1, 1) := by decide +kernel
theorem dX2_pass_1 : decode cX2_pass 1 = .ok (.iconst 1, 1) := by decide +kernel
theorem dX2_pass_2 : decode cX2_pass 2 = .ok (.bipush 100, 2) := by decide +kernel
theorem dX2_pass_4 : decode cX2_pass 4 = .ok (.invokestatic 23, 3) := by decide +kernel
theorem dX2_pass_7 : decode cX2_pass 7 = .ok (.aload_n 0, 1) := by decide +kernel
theorem dX2_pass_8 : decode cX2_pass 8 = .ok (.getfield 10, 3) := by decide +kernel
theorem dX2_pass_11 : decode cX2_pass 11 = .ok (.getfield 115, 3) := by decide +kernel
theorem dX2_pass_14 : decode cX2_pass 14 = .ok (.istore_n 2, 1) := by decide +kernel
theorem dX2_pass_15 : decode cX2_pass 15 = .ok (.aload_n 0, 1) := by decide +kernel
theorem dX2_pass_16 : decode cX2_pass 16 = .ok (.getfield 10, 3) := by decide +kernel
theorem dX2_pass_19 : decode cX2_pass 19 = .ok (.iload_n 1, 1) := by decide +kernel
theorem dX2_pass_20 : decode cX2_pass 20 = .ok (.invokevirtual 118, 3) := by decide +kernel
theorem dX2_pass_23 : decode cX2_pass 23 = .ok (.aload_n 0, 1) := by decide +kernel
theorem dX2_pass_24 : decode cX2_pass 24 = .ok (.getfield 10, 3) := by decide +kernel
theorem dX2_pass_27 : decode cX2_pass 27 = .ok (.getfield 115, 3) := by decide +kernel
theorem dX2_pass_30 : decode cX2_pass 30 = .ok (.iload_n 2, 1) := by decide +kernel
theorem dX2_pass_31 : decode cX2_pass 31 = .ok (.isub, 1) := by decide +kernel
theorem dX2_pass_32 : decode cX2_pass 32 = .ok (.ireturn, 1) := by decide +kernel
theorem dX2_count_0 : decode cX2_count 0 = .ok (.iload_n 1, 1) := by decide +kernel
theorem dX2_count_1 : decode cX2_count 1 = .ok (.bipush 12, 2) := by decide +kernel
theorem dX2_count_3 : decode cX2_count 3 = .ok (.invokestatic 61, 3) := by decide +kernel
theorem dX2_count_6 : decode cX2_count 6 = .ok (.aload_n 0, 1) := by decide +kernel
theorem dX2_count_7 : decode cX2_count 7 = .ok (.getfield 10, 3) := by decide +kernel
theorem dX2_count_10 : decode cX2_count 10 = .ok (.iload_n 1, 1) := by decide +kernel
theorem dX2_count_11 : decode cX2_count 11 = .ok (.invokevirtual 121, 3) := by decide +kernel
theorem dX2_count_14 : decode cX2_count 14 = .ok (.ireturn, 1) := by decide +kernel
theorem dX2_foresee_0 : decode cX2_foresee 0 = .ok (.iload_n 1, 1) := by decide +kernel
theorem dX2_foresee_1 : decode cX2_foresee 1 = .ok (.iconst 1, 1) := by decide +kernel
theorem dX2_foresee_2 : decode cX2_foresee 2 = .ok (.bipush 100, 2) := by decide +kernel
theorem dX2_foresee_4 : decode cX2_foresee 4 = .ok (.invokestatic 23, 3) := by decide +kernel
theorem dX2_foresee_7 : decode cX2_foresee 7 = .ok (.iload_n 2, 1) := by decide +kernel
theorem dX2_foresee_8 : decode cX2_foresee 8 = .ok (.iconst 4, 1) := by decide +kernel
theorem dX2_foresee_9 : decode cX2_foresee 9 = .ok (.invokestatic 61, 3) := by decide +kernel
theorem dX2_foresee_12 : decode cX2_foresee 12 = .ok (.aload_n 0, 1) := by decide +kernel
theorem dX2_foresee_13 : decode cX2_foresee 13 = .ok (.getfield 16, 3) := by decide +kernel
theorem dX2_foresee_16 : decode cX2_foresee 16 = .ok (.aload_n 0, 1) := by decide +kernel
theorem dX2_foresee_17 : decode cX2_foresee 17 = .ok (.getfield 10, 3) := by decide +kernel
theorem dX2_foresee_20 : decode cX2_foresee 20 = .ok (.invokevirtual 124, 3) := by decide +kernel
theorem dX2_foresee_23 : decode cX2_foresee 23 = .ok (.aload_n 0, 1) := by decide +kernel
theorem dX2_foresee_24 : decode cX2_foresee 24 = .ok (.getfield 16, 3) := by decide +kernel
theorem dX2_foresee_27 : decode cX2_foresee 27 = .ok (.iload_n 1, 1) := by decide +kernel
theorem dX2_foresee_28 : decode cX2_foresee 28 = .ok (.invokevirtual 118, 3) := by decide +kernel
theorem dX2_foresee_31 : decode cX2_foresee 31 = .ok (.iload_n 2, 1) := by decide +kernel
theorem dX2_foresee_32 : decode cX2_foresee 32 = .ok (.tableswitch 68 0 2 #[28, 44, 60], 28) := by decide +kernel
theorem dX2_foresee_60 : decode cX2_foresee 60 = .ok (.aload_n 0, 1) := by decide +kernel
theorem dX2_foresee_61 : decode cX2_foresee 61 = .ok (.getfield 16, 3) := by decide +kernel
theorem dX2_foresee_64 : decode cX2_foresee 64 = .ok (.getfield 115, 3) := by decide +kernel
theorem dX2_foresee_67 : decode cX2_foresee 67 = .ok (.aload_n 0, 1) := by decide +kernel
theorem dX2_foresee_68 : decode cX2_foresee 68 = .ok (.getfield 10, 3) := by decide +kernel
theorem dX2_foresee_71 : decode cX2_foresee 71 = .ok (.getfield 115, 3) := by decide +kernel
theorem dX2_foresee_74 : decode cX2_foresee 74 = .ok (.isub, 1) := by decide +kernel
theorem dX2_foresee_75 : decode cX2_foresee 75 = .ok (.ireturn, 1) := by decide +kernel
theorem dX2_foresee_76 : decode cX2_foresee 76 = .ok (.aload_n 0, 1) := by decide +kernel
theorem dX2_foresee_77 : decode cX2_foresee 77 = .ok (.getfield 16, 3) := by decide +kernel
theorem dX2_foresee_80 : decode cX2_foresee 80 = .ok (.invokevirtual 128, 3) := by decide +kernel
theorem dX2_foresee_83 : decode cX2_foresee 83 = .ok (.aload_n 0, 1) := by decide +kernel
theorem dX2_foresee_84 : decode cX2_foresee 84 = .ok (.getfield 10, 3) := by decide +kernel
theorem dX2_foresee_87 : decode cX2_foresee 87 = .ok (.invokevirtual 128, 3) := by decide +kernel
theorem dX2_foresee_90 : decode cX2_foresee 90 = .ok (.isub, 1) := by decide +kernel
theorem dX2_foresee_91 : decode cX2_foresee 91 = .ok (.ireturn, 1) := by decide +kernel
theorem dX2_foresee_92 : decode cX2_foresee 92 = .ok (.aload_n 0, 1) := by decide +kernel
theorem dX2_foresee_93 : decode cX2_foresee 93 = .ok (.getfield 16, 3) := by decide +kernel
theorem dX2_foresee_96 : decode cX2_foresee 96 = .ok (.getfield 131, 3) := by decide +kernel
theorem dX2_foresee_99 : decode cX2_foresee 99 = .ok (.ireturn, 1) := by decide +kernel
theorem dX2_foresee_100 : decode cX2_foresee 100 = .ok (.aload_n 0, 1) := by decide +kernel
theorem dX2_foresee_101 : decode cX2_foresee 101 = .ok (.getfield 16, 3) := by decide +kernel
theorem dX2_foresee_104 : decode cX2_foresee 104 = .ok (.invokevirtual 134, 3) := by decide +kernel
theorem dX2_foresee_107 : decode cX2_foresee 107 = .ok (.aload_n 0, 1) := by decide +kernel
theorem dX2_foresee_108 : decode cX2_foresee 108 = .ok (.getfield 10, 3) := by decide +kernel
theorem dX2_foresee_111 : decode cX2_foresee 111 = .ok (.invokevirtual 134, 3) := by decide +kernel
theorem dX2_foresee_114 : decode cX2_foresee 114 = .ok (.isub, 1) := by decide +kernel
theorem dX2_foresee_115 : decode cX2_foresee 115 = .ok (.ireturn, 1) := by decide +kernel
theorem dX2_advise_0 : decode cX2_advise 0 = .ok (.iload_n 1, 1) := by decide +kernel
theorem dX2_advise_1 : decode cX2_advise 1 = .ok (.iconst 1, 1) := by decide +kernel
theorem dX2_advise_2 : decode cX2_advise 2 = .ok (.bipush 48, 2) := by decide +kernel
theorem dX2_advise_4 : decode cX2_advise 4 = .ok (.invokestatic 23, 3) := by decide +kernel
theorem dX2_advise_7 : decode cX2_advise 7 = .ok (.iconst (-1), 1) := by decide +kernel
theorem dX2_advise_8 : decode cX2_advise 8 = .ok (.istore_n 2, 1) := by decide +kernel
theorem dX2_advise_9 : decode cX2_advise 9 = .ok (.aload_n 0, 1) := by decide +kernel
theorem dX2_advise_10 : decode cX2_advise 10 = .ok (.iconst (-1), 1) := by decide +kernel
theorem dX2_advise_11 : decode cX2_advise 11 = .ok (.iload_n 1, 1) := by decide +kernel
theorem dX2_advise_12 : decode cX2_advise 12 = .ok (.invokevirtual 137, 3) := by decide +kernel
theorem dX2_advise_15 : decode cX2_advise 15 = .ok (.istore_n 3, 1) := by decide +kernel
theorem dX2_advise_16 : decode cX2_advise 16 = .ok (.iconst 0, 1) := by decide +kernel
theorem dX2_advise_17 : decode cX2_advise 17 = .ok (.istore 4, 2) := by decide +kernel
theorem dX2_advise_19 : decode cX2_advise 19 = .ok (.iload 4, 2) := by decide +kernel
theorem dX2_advise_21 : decode cX2_advise 21 = .ok (.aload_n 0, 1) := by decide +kernel
theorem dX2_advise_22 : decode cX2_advise 22 = .ok (.getfield 10, 3) := by decide +kernel
theorem dX2_advise_25 : decode cX2_advise 25 = .ok (.getfield 27, 3) := by decide +kernel
theorem dX2_advise_28 : decode cX2_advise 28 = .ok (.if_icmp .ge 45, 3) := by decide +kernel
theorem dX2_advise_31 : decode cX2_advise 31 = .ok (.aload_n 0, 1) := by decide +kernel
theorem dX2_advise_32 : decode cX2_advise 32 = .ok (.getfield 10, 3) := by decide +kernel
theorem dX2_advise_35 : decode cX2_advise 35 = .ok (.iload 4, 2) := by decide +kernel
theorem dX2_advise_37 : decode cX2_advise 37 = .ok (.invokevirtual 68, 3) := by decide +kernel
theorem dX2_advise_40 : decode cX2_advise 40 = .ok (.invokevirtual 140, 3) := by decide +kernel
theorem dX2_advise_43 : decode cX2_advise 43 = .ok (.ifCond .eq 24, 3) := by decide +kernel
theorem dX2_advise_46 : decode cX2_advise 46 = .ok (.aload_n 0, 1) := by decide +kernel
theorem dX2_advise_47 : decode cX2_advise 47 = .ok (.iload 4, 2) := by decide +kernel
theorem dX2_advise_49 : decode cX2_advise 49 = .ok (.iload_n 1, 1) := by decide +kernel
theorem dX2_advise_50 : decode cX2_advise 50 = .ok (.invokevirtual 137, 3) := by decide +kernel
theorem dX2_advise_53 : decode cX2_advise 53 = .ok (.istore 5, 2) := by decide +kernel
theorem dX2_advise_55 : decode cX2_advise 55 = .ok (.iload 5, 2) := by decide +kernel
theorem dX2_advise_57 : decode cX2_advise 57 = .ok (.iload_n 3, 1) := by decide +kernel
theorem dX2_advise_58 : decode cX2_advise 58 = .ok (.if_icmp .ge 9, 3) := by decide +kernel
theorem dX2_advise_61 : decode cX2_advise 61 = .ok (.iload 5, 2) := by decide +kernel
theorem dX2_advise_63 : decode cX2_advise 63 = .ok (.istore_n 3, 1) := by decide +kernel
theorem dX2_advise_64 : decode cX2_advise 64 = .ok (.iload 4, 2) := by decide +kernel
theorem dX2_advise_66 : decode cX2_advise 66 = .ok (.istore_n 2, 1) := by decide +kernel
theorem dX2_advise_67 : decode cX2_advise 67 = .ok (.iinc 4 1, 3) := by decide +kernel
theorem dX2_advise_70 : decode cX2_advise 70 = .ok (.goto (-51), 3) := by decide +kernel
theorem dX2_advise_73 : decode cX2_advise 73 = .ok (.iload_n 2, 1) := by decide +kernel
theorem dX2_advise_74 : decode cX2_advise 74 = .ok (.ireturn, 1) := by decide +kernel
theorem dX2_thirsty_0 : decode cX2_thirsty 0 = .ok (.aload_n 0, 1) := by decide +kernel
theorem dX2_thirsty_1 : decode cX2_thirsty 1 = .ok (.getfield 16, 3) := by decide +kernel
theorem dX2_thirsty_4 : decode cX2_thirsty 4 = .ok (.aload_n 0, 1) := by decide +kernel
theorem dX2_thirsty_5 : decode cX2_thirsty 5 = .ok (.getfield 10, 3) := by decide +kernel
theorem dX2_thirsty_8 : decode cX2_thirsty 8 = .ok (.invokevirtual 124, 3) := by decide +kernel
theorem dX2_thirsty_11 : decode cX2_thirsty 11 = .ok (.iconst 1, 1) := by decide +kernel
theorem dX2_thirsty_12 : decode cX2_thirsty 12 = .ok (.istore_n 1, 1) := by decide +kernel
theorem dX2_thirsty_13 : decode cX2_thirsty 13 = .ok (.iload_n 1, 1) := by decide +kernel
theorem dX2_thirsty_14 : decode cX2_thirsty 14 = .ok (.sipush 200, 3) := by decide +kernel
theorem dX2_thirsty_17 : decode cX2_thirsty 17 = .ok (.if_icmp .gt 36, 3) := by decide +kernel
theorem dX2_thirsty_20 : decode cX2_thirsty 20 = .ok (.aload_n 0, 1) := by decide +kernel
theorem dX2_thirsty_21 : decode cX2_thirsty 21 = .ok (.getfield 16, 3) := by decide +kernel
theorem dX2_thirsty_24 : decode cX2_thirsty 24 = .ok (.iconst 1, 1) := by decide +kernel
theorem dX2_thirsty_25 : decode cX2_thirsty 25 = .ok (.invokevirtual 118, 3) := by decide +kernel
theorem dX2_thirsty_28 : decode cX2_thirsty 28 = .ok (.aload_n 0, 1) := by decide +kernel
theorem dX2_thirsty_29 : decode cX2_thirsty 29 = .ok (.getfield 16, 3) := by decide +kernel
theorem dX2_thirsty_32 : decode cX2_thirsty 32 = .ok (.getfield 115, 3) := by decide +kernel
theorem dX2_thirsty_35 : decode cX2_thirsty 35 = .ok (.aload_n 0, 1) := by decide +kernel
theorem dX2_thirsty_36 : decode cX2_thirsty 36 = .ok (.getfield 10, 3) := by decide +kernel
theorem dX2_thirsty_39 : decode cX2_thirsty 39 = .ok (.getfield 115, 3) := by decide +kernel
theorem dX2_thirsty_42 : decode cX2_thirsty 42 = .ok (.if_icmp .le 5, 3) := by decide +kernel
theorem dX2_thirsty_45 : decode cX2_thirsty 45 = .ok (.iload_n 1, 1) := by decide +kernel
theorem dX2_thirsty_46 : decode cX2_thirsty 46 = .ok (.ireturn, 1) := by decide +kernel
theorem dX2_thirsty_47 : decode cX2_thirsty 47 = .ok (.iinc 1 1, 3) := by decide +kernel
theorem dX2_thirsty_50 : decode cX2_thirsty 50 = .ok (.goto (-37), 3) := by decide +kernel
theorem dX2_thirsty_53 : decode cX2_thirsty 53 = .ok (.iconst (-1), 1) := by decide +kernel
theorem dX2_thirsty_54 : decode cX2_thirsty 54 = .ok (.ireturn, 1) := by decide +kernel
theorem dX2_worst_0 : decode cX2_worst 0 = .ok (.iconst (-1), 1) := by decide +kernel
theorem dX2_worst_1 : decode cX2_worst 1 = .ok (.istore_n 1, 1) := by decide +kernel
theorem dX2_worst_2 : decode cX2_worst 2 = .ok (.iconst 0, 1) := by decide +kernel
theorem dX2_worst_3 : decode cX2_worst 3 = .ok (.istore_n 2, 1) := by decide +kernel
theorem dX2_worst_4 : decode cX2_worst 4 = .ok (.iconst 0, 1) := by decide +kernel
theorem dX2_worst_5 : decode cX2_worst 5 = .ok (.istore_n 3, 1) := by decide +kernel
theorem dX2_worst_6 : decode cX2_worst 6 = .ok (.iload_n 3, 1) := by decide +kernel
theorem dX2_worst_7 : decode cX2_worst 7 = .ok (.aload_n 0, 1) := by decide +kernel
theorem dX2_worst_8 : decode cX2_worst 8 = .ok (.getfield 10, 3) := by decide +kernel
theorem dX2_worst_11 : decode cX2_worst 11 = .ok (.getfield 27, 3) := by decide +kernel
theorem dX2_worst_14 : decode cX2_worst 14 = .ok (.if_icmp .ge 33, 3) := by decide +kernel
theorem dX2_worst_17 : decode cX2_worst 17 = .ok (.aload_n 0, 1) := by decide +kernel
theorem dX2_worst_18 : decode cX2_worst 18 = .ok (.getfield 10, 3) := by decide +kernel
theorem dX2_worst_21 : decode cX2_worst 21 = .ok (.iload_n 3, 1) := by decide +kernel
theorem dX2_worst_22 : decode cX2_worst 22 = .ok (.invokevirtual 68, 3) := by decide +kernel
theorem dX2_worst_25 : decode cX2_worst 25 = .ok (.getfield 143, 3) := by decide +kernel
theorem dX2_worst_28 : decode cX2_worst 28 = .ok (.istore 4, 2) := by decide +kernel
theorem dX2_worst_30 : decode cX2_worst 30 = .ok (.iload 4, 2) := by decide +kernel
theorem dX2_worst_32 : decode cX2_worst 32 = .ok (.iload_n 2, 1) := by decide +kernel
theorem dX2_worst_33 : decode cX2_worst 33 = .ok (.if_icmp .le 8, 3) := by decide +kernel
theorem dX2_worst_36 : decode cX2_worst 36 = .ok (.iload 4, 2) := by decide +kernel
theorem dX2_worst_38 : decode cX2_worst 38 = .ok (.istore_n 2, 1) := by decide +kernel
theorem dX2_worst_39 : decode cX2_worst 39 = .ok (.iload_n 3, 1) := by decide +kernel
theorem dX2_worst_40 : decode cX2_worst 40 = .ok (.istore_n 1, 1) := by decide +kernel
theorem dX2_worst_41 : decode cX2_worst 41 = .ok (.iinc 3 1, 3) := by decide +kernel
theorem dX2_worst_44 : decode cX2_worst 44 = .ok (.goto (-38), 3) := by decide +kernel
theorem dX2_worst_47 : decode cX2_worst 47 = .ok (.iload_n 1, 1) := by decide +kernel
theorem dX2_worst_48 : decode cX2_worst 48 = .ok (.ireturn, 1) := by decide +kernel
theorem dX2_reaches_0 : decode cX2_reaches 0 = .ok (.aload_n 0, 1) := by decide +kernel
theorem dX2_reaches_1 : decode cX2_reaches 1 = .ok (.getfield 10, 3) := by decide +kernel
theorem dX2_reaches_4 : decode cX2_reaches 4 = .ok (.getfield 145, 3) := by decide +kernel
theorem dX2_reaches_7 : decode cX2_reaches 7 = .ok (.ifCond .ne 5, 3) := by decide +kernel
theorem dX2_reaches_10 : decode cX2_reaches 10 = .ok (.dconst 0, 1) := by decide +kernel
theorem dX2_reaches_11 : decode cX2_reaches 11 = .ok (.dreturn, 1) := by decide +kernel
theorem dX2_reaches_12 : decode cX2_reaches 12 = .ok (.aload_n 0, 1) := by decide +kernel
theorem dX2_reaches_13 : decode cX2_reaches 13 = .ok (.getfield 10, 3) := by decide +kernel
theorem dX2_reaches_16 : decode cX2_reaches 16 = .ok (.getfield 148, 3) := by decide +kernel
theorem dX2_reaches_19 : decode cX2_reaches 19 = .ok (.i2d, 1) := by decide +kernel
theorem dX2_reaches_20 : decode cX2_reaches 20 = .ok (.aload_n 0, 1) := by decide +kernel
theorem dX2_reaches_21 : decode cX2_reaches 21 = .ok (.getfield 10, 3) := by decide +kernel
theorem dX2_reaches_24 : decode cX2_reaches 24 = .ok (.getfield 145, 3) := by decide +kernel
theorem dX2_reaches_27 : decode cX2_reaches 27 = .ok (.i2d, 1) := by decide +kernel
theorem dX2_reaches_28 : decode cX2_reaches 28 = .ok (.ddiv, 1) := by decide +kernel
theorem dX2_reaches_29 : decode cX2_reaches 29 = .ok (.dreturn, 1) := by decide +kernel
theorem dX2_digest_0 : decode cX2_digest 0 = .ok (.ldc2_w 151, 3) := by decide +kernel
theorem dX2_digest_3 : decode cX2_digest 3 = .ok (.lstore_n 1, 1) := by decide +kernel
theorem dX2_digest_4 : decode cX2_digest 4 = .ok (.iconst 0, 1) := by decide +kernel
theorem dX2_digest_5 : decode cX2_digest 5 = .ok (.istore_n 3, 1) := by decide +kernel
theorem dX2_digest_6 : decode cX2_digest 6 = .ok (.iload_n 3, 1) := by decide +kernel
theorem dX2_digest_7 : decode cX2_digest 7 = .ok (.bipush 12, 2) := by decide +kernel
theorem dX2_digest_9 : decode cX2_digest 9 = .ok (.if_icmp .ge 25, 3) := by decide +kernel
theorem dX2_digest_12 : decode cX2_digest 12 = .ok (.lload_n 1, 1) := by decide +kernel
theorem dX2_digest_13 : decode cX2_digest 13 = .ok (.ldc2_w 153, 3) := by decide +kernel
theorem dX2_digest_16 : decode cX2_digest 16 = .ok (.lmul, 1) := by decide +kernel
theorem dX2_digest_17 : decode cX2_digest 17 = .ok (.aload_n 0, 1) := by decide +kernel
theorem dX2_digest_18 : decode cX2_digest 18 = .ok (.getfield 10, 3) := by decide +kernel
theorem dX2_digest_21 : decode cX2_digest 21 = .ok (.iload_n 3, 1) := by decide +kernel
theorem dX2_digest_22 : decode cX2_digest 22 = .ok (.invokevirtual 121, 3) := by decide +kernel
theorem dX2_digest_25 : decode cX2_digest 25 = .ok (.i2l, 1) := by decide +kernel
theorem dX2_digest_26 : decode cX2_digest 26 = .ok (.ladd, 1) := by decide +kernel
theorem dX2_digest_27 : decode cX2_digest 27 = .ok (.lstore_n 1, 1) := by decide +kernel
theorem dX2_digest_28 : decode cX2_digest 28 = .ok (.iinc 3 1, 3) := by decide +kernel
theorem dX2_digest_31 : decode cX2_digest 31 = .ok (.goto (-25), 3) := by decide +kernel
theorem dX2_digest_34 : decode cX2_digest 34 = .ok (.iconst 0, 1) := by decide +kernel
theorem dX2_digest_35 : decode cX2_digest 35 = .ok (.istore_n 3, 1) := by decide +kernel
theorem dX2_digest_36 : decode cX2_digest 36 = .ok (.iload_n 3, 1) := by decide +kernel
theorem dX2_digest_37 : decode cX2_digest 37 = .ok (.bipush 24, 2) := by decide +kernel
theorem dX2_digest_39 : decode cX2_digest 39 = .ok (.if_icmp .ge 43, 3) := by decide +kernel
theorem dX2_digest_42 : decode cX2_digest 42 = .ok (.lload_n 1, 1) := by decide +kernel
theorem dX2_digest_43 : decode cX2_digest 43 = .ok (.ldc2_w 153, 3) := by decide +kernel
theorem dX2_digest_46 : decode cX2_digest 46 = .ok (.lmul, 1) := by decide +kernel
theorem dX2_digest_47 : decode cX2_digest 47 = .ok (.aload_n 0, 1) := by decide +kernel
theorem dX2_digest_48 : decode cX2_digest 48 = .ok (.getfield 10, 3) := by decide +kernel
theorem dX2_digest_51 : decode cX2_digest 51 = .ok (.getfield 42, 3) := by decide +kernel
theorem dX2_digest_54 : decode cX2_digest 54 = .ok (.iload_n 3, 1) := by decide +kernel
theorem dX2_digest_55 : decode cX2_digest 55 = .ok (.iaload, 1) := by decide +kernel
theorem dX2_digest_56 : decode cX2_digest 56 = .ok (.i2l, 1) := by decide +kernel
theorem dX2_digest_57 : decode cX2_digest 57 = .ok (.ladd, 1) := by decide +kernel
theorem dX2_digest_58 : decode cX2_digest 58 = .ok (.lstore_n 1, 1) := by decide +kernel
theorem dX2_digest_59 : decode cX2_digest 59 = .ok (.lload_n 1, 1) := by decide +kernel
theorem dX2_digest_60 : decode cX2_digest 60 = .ok (.ldc2_w 153, 3) := by decide +kernel
theorem dX2_digest_63 : decode cX2_digest 63 = .ok (.lmul, 1) := by decide +kernel
theorem dX2_digest_64 : decode cX2_digest 64 = .ok (.aload_n 0, 1) := by decide +kernel
theorem dX2_digest_65 : decode cX2_digest 65 = .ok (.getfield 10, 3) := by decide +kernel
theorem dX2_digest_68 : decode cX2_digest 68 = .ok (.getfield 50, 3) := by decide +kernel
theorem dX2_digest_71 : decode cX2_digest 71 = .ok (.iload_n 3, 1) := by decide +kernel
theorem dX2_digest_72 : decode cX2_digest 72 = .ok (.iaload, 1) := by decide +kernel
theorem dX2_digest_73 : decode cX2_digest 73 = .ok (.i2l, 1) := by decide +kernel
theorem dX2_digest_74 : decode cX2_digest 74 = .ok (.ladd, 1) := by decide +kernel
theorem dX2_digest_75 : decode cX2_digest 75 = .ok (.lstore_n 1, 1) := by decide +kernel
theorem dX2_digest_76 : decode cX2_digest 76 = .ok (.iinc 3 1, 3) := by decide +kernel
theorem dX2_digest_79 : decode cX2_digest 79 = .ok (.goto (-43), 3) := by decide +kernel
theorem dX2_digest_82 : decode cX2_digest 82 = .ok (.iconst 0, 1) := by decide +kernel
theorem dX2_digest_83 : decode cX2_digest 83 = .ok (.istore_n 3, 1) := by decide +kernel
theorem dX2_digest_84 : decode cX2_digest 84 = .ok (.iload_n 3, 1) := by decide +kernel
theorem dX2_digest_85 : decode cX2_digest 85 = .ok (.aload_n 0, 1) := by decide +kernel
theorem dX2_digest_86 : decode cX2_digest 86 = .ok (.getfield 10, 3) := by decide +kernel
theorem dX2_digest_89 : decode cX2_digest 89 = .ok (.getfield 27, 3) := by decide +kernel
theorem dX2_digest_92 : decode cX2_digest 92 = .ok (.if_icmp .ge 16, 3) := by decide +kernel
theorem dX2_digest_95 : decode cX2_digest 95 = .ok (.aload_n 0, 1) := by decide +kernel
theorem dX2_digest_96 : decode cX2_digest 96 = .ok (.lload_n 1, 1) := by decide +kernel
theorem dX2_digest_97 : decode cX2_digest 97 = .ok (.iload_n 3, 1) := by decide +kernel
theorem dX2_digest_98 : decode cX2_digest 98 = .ok (.invokevirtual 155, 3) := by decide +kernel
theorem dX2_digest_101 : decode cX2_digest 101 = .ok (.lstore_n 1, 1) := by decide +kernel
theorem dX2_digest_102 : decode cX2_digest 102 = .ok (.iinc 3 1, 3) := by decide +kernel
theorem dX2_digest_105 : decode cX2_digest 105 = .ok (.goto (-21), 3) := by decide +kernel
theorem dX2_digest_108 : decode cX2_digest 108 = .ok (.lload_n 1, 1) := by decide +kernel
theorem dX2_digest_109 : decode cX2_digest 109 = .ok (.lreturn, 1) := by decide +kernel
theorem dX2_digestArch_0 : decode cX2_digestArch 0 = .ok (.lload_n 1, 1) := by decide +kernel
theorem dX2_digestArch_1 : decode cX2_digestArch 1 = .ok (.lstore 4, 2) := by decide +kernel
theorem dX2_digestArch_3 : decode cX2_digestArch 3 = .ok (.iconst 0, 1) := by decide +kernel
theorem dX2_digestArch_4 : decode cX2_digestArch 4 = .ok (.istore 6, 2) := by decide +kernel
theorem dX2_digestArch_6 : decode cX2_digestArch 6 = .ok (.iload 6, 2) := by decide +kernel
theorem dX2_digestArch_8 : decode cX2_digestArch 8 = .ok (.bipush 9, 2) := by decide +kernel
theorem dX2_digestArch_10 : decode cX2_digestArch 10 = .ok (.if_icmp .ge 29, 3) := by decide +kernel
theorem dX2_digestArch_13 : decode cX2_digestArch 13 = .ok (.lload 4, 2) := by decide +kernel
theorem dX2_digestArch_15 : decode cX2_digestArch 15 = .ok (.ldc2_w 153, 3) := by decide +kernel
theorem dX2_digestArch_18 : decode cX2_digestArch 18 = .ok (.lmul, 1) := by decide +kernel
theorem dX2_digestArch_19 : decode cX2_digestArch 19 = .ok (.aload_n 0, 1) := by decide +kernel
theorem dX2_digestArch_20 : decode cX2_digestArch 20 = .ok (.getfield 10, 3) := by decide +kernel
theorem dX2_digestArch_23 : decode cX2_digestArch 23 = .ok (.iload_n 3, 1) := by decide +kernel
theorem dX2_digestArch_24 : decode cX2_digestArch 24 = .ok (.iload 6, 2) := by decide +kernel
theorem dX2_digestArch_26 : decode cX2_digestArch 26 = .ok (.invokevirtual 65, 3) := by decide +kernel
theorem dX2_digestArch_29 : decode cX2_digestArch 29 = .ok (.i2l, 1) := by decide +kernel
theorem dX2_digestArch_30 : decode cX2_digestArch 30 = .ok (.ladd, 1) := by decide +kernel
theorem dX2_digestArch_31 : decode cX2_digestArch 31 = .ok (.lstore 4, 2) := by decide +kernel
theorem dX2_digestArch_33 : decode cX2_digestArch 33 = .ok (.iinc 6 1, 3) := by decide +kernel
theorem dX2_digestArch_36 : decode cX2_digestArch 36 = .ok (.goto (-30), 3) := by decide +kernel
theorem dX2_digestArch_39 : decode cX2_digestArch 39 = .ok (.iconst 0, 1) := by decide +kernel
theorem dX2_digestArch_40 : decode cX2_digestArch 40 = .ok (.istore 6, 2) := by decide +kernel
theorem dX2_digestArch_42 : decode cX2_digestArch 42 = .ok (.iload 6, 2) := by decide +kernel
theorem dX2_digestArch_44 : decode cX2_digestArch 44 = .ok (.iconst 4, 1) := by decide +kernel
theorem dX2_digestArch_45 : decode cX2_digestArch 45 = .ok (.if_icmp .ge 32, 3) := by decide +kernel
theorem dX2_digestArch_48 : decode cX2_digestArch 48 = .ok (.lload 4, 2) := by decide +kernel
theorem dX2_digestArch_50 : decode cX2_digestArch 50 = .ok (.ldc2_w 153, 3) := by decide +kernel
theorem dX2_digestArch_53 : decode cX2_digestArch 53 = .ok (.lmul, 1) := by decide +kernel
theorem dX2_digestArch_54 : decode cX2_digestArch 54 = .ok (.aload_n 0, 1) := by decide +kernel
theorem dX2_digestArch_55 : decode cX2_digestArch 55 = .ok (.getfield 10, 3) := by decide +kernel
theorem dX2_digestArch_58 : decode cX2_digestArch 58 = .ok (.iload_n 3, 1) := by decide +kernel
theorem dX2_digestArch_59 : decode cX2_digestArch 59 = .ok (.invokevirtual 68, 3) := by decide +kernel
theorem dX2_digestArch_62 : decode cX2_digestArch 62 = .ok (.iload 6, 2) := by decide +kernel
theorem dX2_digestArch_64 : decode cX2_digestArch 64 = .ok (.invokevirtual 91, 3) := by decide +kernel
theorem dX2_digestArch_67 : decode cX2_digestArch 67 = .ok (.i2l, 1) := by decide +kernel
theorem dX2_digestArch_68 : decode cX2_digestArch 68 = .ok (.ladd, 1) := by decide +kernel
theorem dX2_digestArch_69 : decode cX2_digestArch 69 = .ok (.lstore 4, 2) := by decide +kernel
theorem dX2_digestArch_71 : decode cX2_digestArch 71 = .ok (.iinc 6 1, 3) := by decide +kernel
theorem dX2_digestArch_74 : decode cX2_digestArch 74 = .ok (.goto (-32), 3) := by decide +kernel
theorem dX2_digestArch_77 : decode cX2_digestArch 77 = .ok (.lload 4, 2) := by decide +kernel
theorem dX2_digestArch_79 : decode cX2_digestArch 79 = .ok (.lreturn, 1) := by decide +kernel
theorem dX2_thirstWithClosed_0 : decode cX2_thirstWithClosed 0 = .ok (.aload_n 0, 1) := by decide +kernel
theorem dX2_thirstWithClosed_1 : decode cX2_thirstWithClosed 1 = .ok (.getfield 16, 3) := by decide +kernel
theorem dX2_thirstWithClosed_4 : decode cX2_thirstWithClosed 4 = .ok (.aload_n 0, 1) := by decide +kernel
theorem dX2_thirstWithClosed_5 : decode cX2_thirstWithClosed 5 = .ok (.getfield 10, 3) := by decide +kernel
theorem dX2_thirstWithClosed_8 : decode cX2_thirstWithClosed 8 = .ok (.invokevirtual 124, 3) := by decide +kernel
theorem dX2_thirstWithClosed_11 : decode cX2_thirstWithClosed 11 = .ok (.iload_n 1, 1) := by decide +kernel
theorem dX2_thirstWithClosed_12 : decode cX2_thirstWithClosed 12 = .ok (.ifCond .lt 26, 3) := by decide +kernel
theorem dX2_thirstWithClosed_15 : decode cX2_thirstWithClosed 15 = .ok (.iload_n 1, 1) := by decide +kernel
theorem dX2_thirstWithClosed_16 : decode cX2_thirstWithClosed 16 = .ok (.aload_n 0, 1) := by decide +kernel
theorem dX2_thirstWithClosed_17 : decode cX2_thirstWithClosed 17 = .ok (.getfield 16, 3) := by decide +kernel
theorem dX2_thirstWithClosed_20 : decode cX2_thirstWithClosed 20 = .ok (.getfield 27, 3) := by decide +kernel
theorem dX2_thirstWithClosed_23 : decode cX2_thirstWithClosed 23 = .ok (.if_icmp .ge 15, 3) := by decide +kernel
theorem dX2_thirstWithClosed_26 : decode cX2_thirstWithClosed 26 = .ok (.aload_n 0, 1) := by decide +kernel
theorem dX2_thirstWithClosed_27 : decode cX2_thirstWithClosed 27 = .ok (.getfield 16, 3) := by decide +kernel
theorem dX2_thirstWithClosed_30 : decode cX2_thirstWithClosed 30 = .ok (.iload_n 1, 1) := by decide +kernel
theorem dX2_thirstWithClosed_31 : decode cX2_thirstWithClosed 31 = .ok (.invokevirtual 68, 3) := by decide +kernel
theorem dX2_thirstWithClosed_34 : decode cX2_thirstWithClosed 34 = .ok (.iconst 0, 1) := by decide +kernel
theorem dX2_thirstWithClosed_35 : decode cX2_thirstWithClosed 35 = .ok (.putfield 88, 3) := by decide +kernel
theorem dX2_thirstWithClosed_38 : decode cX2_thirstWithClosed 38 = .ok (.aload_n 0, 1) := by decide +kernel
theorem dX2_thirstWithClosed_39 : decode cX2_thirstWithClosed 39 = .ok (.getfield 16, 3) := by decide +kernel
theorem dX2_thirstWithClosed_42 : decode cX2_thirstWithClosed 42 = .ok (.iload_n 2, 1) := by decide +kernel
theorem dX2_thirstWithClosed_43 : decode cX2_thirstWithClosed 43 = .ok (.invokevirtual 118, 3) := by decide +kernel
theorem dX2_thirstWithClosed_46 : decode cX2_thirstWithClosed 46 = .ok (.aload_n 0, 1) := by decide +kernel
theorem dX2_thirstWithClosed_47 : decode cX2_thirstWithClosed 47 = .ok (.getfield 16, 3) := by decide +kernel
theorem dX2_thirstWithClosed_50 : decode cX2_thirstWithClosed 50 = .ok (.getfield 115, 3) := by decide +kernel
theorem dX2_thirstWithClosed_53 : decode cX2_thirstWithClosed 53 = .ok (.aload_n 0, 1) := by decide +kernel
theorem dX2_thirstWithClosed_54 : decode cX2_thirstWithClosed 54 = .ok (.getfield 10, 3) := by decide +kernel
theorem dX2_thirstWithClosed_57 : decode cX2_thirstWithClosed 57 = .ok (.getfield 115, 3) := by decide +kernel
theorem dX2_thirstWithClosed_60 : decode cX2_thirstWithClosed 60 = .ok (.isub, 1) := by decide +kernel
theorem dX2_thirstWithClosed_61 : decode cX2_thirstWithClosed 61 = .ok (.ireturn, 1) := by decide +kernel
theorem dX2_setHour_0 : decode cX2_setHour 0 = .ok (.iload_n 1, 1) := by decide +kernel
theorem dX2_setHour_1 : decode cX2_setHour 1 = .ok (.bipush 24, 2) := by decide +kernel
theorem dX2_setHour_3 : decode cX2_setHour 3 = .ok (.invokestatic 61, 3) := by decide +kernel
theorem dX2_setHour_6 : decode cX2_setHour 6 = .ok (.iload_n 2, 1) := by decide +kernel
theorem dX2_setHour_7 : decode cX2_setHour 7 = .ok (.iconst 0, 1) := by decide +kernel
theorem dX2_setHour_8 : decode cX2_setHour 8 = .ok (.bipush 40, 2) := by decide +kernel
theorem dX2_setHour_10 : decode cX2_setHour 10 = .ok (.invokestatic 23, 3) := by decide +kernel
theorem dX2_setHour_13 : decode cX2_setHour 13 = .ok (.aload_n 0, 1) := by decide +kernel
theorem dX2_setHour_14 : decode cX2_setHour 14 = .ok (.iload_n 1, 1) := by decide +kernel
theorem dX2_setHour_15 : decode cX2_setHour 15 = .ok (.iaload, 1) := by decide +kernel
theorem dX2_setHour_16 : decode cX2_setHour 16 = .ok (.istore_n 3, 1) := by decide +kernel
theorem dX2_setHour_17 : decode cX2_setHour 17 = .ok (.aload_n 0, 1) := by decide +kernel
theorem dX2_setHour_18 : decode cX2_setHour 18 = .ok (.iload_n 1, 1) := by decide +kernel
theorem dX2_setHour_19 : decode cX2_setHour 19 = .ok (.iload_n 2, 1) := by decide +kernel
theorem dX2_setHour_20 : decode cX2_setHour 20 = .ok (.iastore, 1) := by decide +kernel
theorem dX2_setHour_21 : decode cX2_setHour 21 = .ok (.iload_n 3, 1) := by decide +kernel
theorem dX2_setHour_22 : decode cX2_setHour 22 = .ok (.ireturn, 1) := by decide +kernel
theorem dX2_requireArch_0 : decode cX2_requireArch 0 = .ok (.iload_n 1, 1) := by decide +kernel
theorem dX2_requireArch_1 : decode cX2_requireArch 1 = .ok (.aload_n 0, 1) := by decide +kernel
theorem dX2_requireArch_2 : decode cX2_requireArch 2 = .ok (.getfield 10, 3) := by decide +kernel
theorem dX2_requireArch_5 : decode cX2_requireArch 5 = .ok (.getfield 27, 3) := by decide +kernel
theorem dX2_requireArch_8 : decode cX2_requireArch 8 = .ok (.invokestatic 61, 3) := by decide +kernel
theorem dX2_requireArch_11 : decode cX2_requireArch 11 = .ok (.return_, 1) := by decide +kernel
theorem dX2_requireIndex_0 : decode cX2_requireIndex 0 = .ok (.iload_n 0, 1) := by decide +kernel
theorem dX2_requireIndex_1 : decode cX2_requireIndex 1 = .ok (.ifCond .lt 8, 3) := by decide +kernel
theorem dX2_requireIndex_4 : decode cX2_requireIndex 4 = .ok (.iload_n 0, 1) := by decide +kernel
theorem dX2_requireIndex_5 : decode cX2_requireIndex 5 = .ok (.iload_n 1, 1) := by decide +kernel
theorem dX2_requireIndex_6 : decode cX2_requireIndex 6 = .ok (.if_icmp .lt 13, 3) := by decide +kernel
theorem dX2_requireIndex_9 : decode cX2_requireIndex 9 = .ok (.new 159, 3) := by decide +kernel
theorem dX2_requireIndex_12 : decode cX2_requireIndex 12 = .ok (.dup, 1) := by decide +kernel
theorem dX2_requireIndex_13 : decode cX2_requireIndex 13 = .ok (.ldc 161, 2) := by decide +kernel
theorem dX2_requireIndex_15 : decode cX2_requireIndex 15 = .ok (.invokespecial 163, 3) := by decide +kernel
theorem dX2_requireIndex_18 : decode cX2_requireIndex 18 = .ok (.athrow, 1) := by decide +kernel
theorem dX2_requireIndex_19 : decode cX2_requireIndex 19 = .ok (.return_, 1) := by decide +kernel
theorem dX2_requireRange_0 : decode cX2_requireRange 0 = .ok (.iload_n 0, 1) := by decide +kernel
theorem dX2_requireRange_1 : decode cX2_requireRange 1 = .ok (.iload_n 1, 1) := by decide +kernel
theorem dX2_requireRange_2 : decode cX2_requireRange 2 = .ok (.if_icmp .lt 8, 3) := by decide +kernel
theorem dX2_requireRange_5 : decode cX2_requireRange 5 = .ok (.iload_n 0, 1) := by decide +kernel
theorem dX2_requireRange_6 : decode cX2_requireRange 6 = .ok (.iload_n 2, 1) := by decide +kernel
theorem dX2_requireRange_7 : decode cX2_requireRange 7 = .ok (.if_icmp .le 13, 3) := by decide +kernel
theorem dX2_requireRange_10 : decode cX2_requireRange 10 = .ok (.new 164, 3) := by decide +kernel
theorem dX2_requireRange_13 : decode cX2_requireRange 13 = .ok (.dup, 1) := by decide +kernel
theorem dX2_requireRange_14 : decode cX2_requireRange 14 = .ok (.ldc 166, 2) := by decide +kernel
theorem dX2_requireRange_16 : decode cX2_requireRange 16 = .ok (.invokespecial 168, 3) := by decide +kernel
theorem dX2_requireRange_19 : decode cX2_requireRange 19 = .ok (.athrow, 1) := by decide +kernel
theorem dX2_requireRange_20 : decode cX2_requireRange 20 = .ok (.return_, 1) := by decide +kernel
theorem dJ9_floorMod_7cf53_0 : decode cJ9_floorMod_7cf53 0 = .ok (.iload_n 0, 1) := by decide +kernel
theorem dJ9_floorMod_7cf53_1 : decode cJ9_floorMod_7cf53 1 = .ok (.iload_n 1, 1) := by decide +kernel
theorem dJ9_floorMod_7cf53_2 : decode cJ9_floorMod_7cf53 2 = .ok (.irem, 1) := by decide +kernel
theorem dJ9_floorMod_7cf53_3 : decode cJ9_floorMod_7cf53 3 = .ok (.istore_n 2, 1) := by decide +kernel
theorem dJ9_floorMod_7cf53_4 : decode cJ9_floorMod_7cf53 4 = .ok (.iload_n 0, 1) := by decide +kernel
theorem dJ9_floorMod_7cf53_5 : decode cJ9_floorMod_7cf53 5 = .ok (.iload_n 1, 1) := by decide +kernel
theorem dJ9_floorMod_7cf53_6 : decode cJ9_floorMod_7cf53 6 = .ok (.ixor, 1) := by decide +kernel
theorem dJ9_floorMod_7cf53_7 : decode cJ9_floorMod_7cf53 7 = .ok (.ifCond .ge 11, 3) := by decide +kernel
theorem dJ9_floorMod_7cf53_10 : decode cJ9_floorMod_7cf53 10 = .ok (.iload_n 2, 1) := by decide +kernel
theorem dJ9_floorMod_7cf53_11 : decode cJ9_floorMod_7cf53 11 = .ok (.ifCond .eq 7, 3) := by decide +kernel
theorem dJ9_floorMod_7cf53_14 : decode cJ9_floorMod_7cf53 14 = .ok (.iload_n 2, 1) := by decide +kernel
theorem dJ9_floorMod_7cf53_15 : decode cJ9_floorMod_7cf53 15 = .ok (.iload_n 1, 1) := by decide +kernel
theorem dJ9_floorMod_7cf53_16 : decode cJ9_floorMod_7cf53 16 = .ok (.iadd, 1) := by decide +kernel
theorem dJ9_floorMod_7cf53_17 : decode cJ9_floorMod_7cf53 17 = .ok (.ireturn, 1) := by decide +kernel
theorem dJ9_floorMod_7cf53_18 : decode cJ9_floorMod_7cf53 18 = .ok (.iload_n 2, 1) := by decide +kernel
theorem dJ9_floorMod_7cf53_19 : decode cJ9_floorMod_7cf53 19 = .ok (.ireturn, 1) := by decide +kernel
theorem dJ9_max_7cf53_0 : decode cJ9_max_7cf53 0 = .ok (.iload_n 0, 1) := by decide +kernel
theorem dJ9_max_7cf53_1 : decode cJ9_max_7cf53 1 = .ok (.iload_n 1, 1) := by decide +kernel
theorem dJ9_max_7cf53_2 : decode cJ9_max_7cf53 2 = .ok (.if_icmp .lt 7, 3) := by decide +kernel
theorem dJ9_max_7cf53_5 : decode cJ9_max_7cf53 5 = .ok (.iload_n 0, 1) := by decide +kernel
theorem dJ9_max_7cf53_6 : decode cJ9_max_7cf53 6 = .ok (.goto 4, 3) := by decide +kernel
theorem dJ9_max_7cf53_9 : decode cJ9_max_7cf53 9 = .ok (.iload_n 1, 1) := by decide +kernel
theorem dJ9_max_7cf53_10 : decode cJ9_max_7cf53 10 = .ok (.ireturn, 1) := by decide +kernel
theorem dJ9_min_7cf53_0 : decode cJ9_min_7cf53 0 = .ok (.iload_n 0, 1) := by decide +kernel
theorem dJ9_min_7cf53_1 : decode cJ9_min_7cf53 1 = .ok (.iload_n 1, 1) := by decide +kernel
theorem dJ9_min_7cf53_2 : decode cJ9_min_7cf53 2 = .ok (.if_icmp .gt 7, 3) := by decide +kernel
theorem dJ9_min_7cf53_5 : decode cJ9_min_7cf53 5 = .ok (.iload_n 0, 1) := by decide +kernel
theorem dJ9_min_7cf53_6 : decode cJ9_min_7cf53 6 = .ok (.goto 4, 3) := by decide +kernel
theorem dJ9_min_7cf53_9 : decode cJ9_min_7cf53 9 = .ok (.iload_n 1, 1) := by decide +kernel
theorem dJ9_min_7cf53_10 : decode cJ9_min_7cf53 10 = .ok (.ireturn, 1) := by decide +kernel
