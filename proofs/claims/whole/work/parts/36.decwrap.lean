theorem dL_build_0 : decode cL_build 0 = .ok (.aload_n 3, 1) := by decide +kernel
theorem dL_build_1 : decode cL_build 1 = .ok (.iconst 0, 1) := by decide +kernel
theorem dL_build_2 : decode cL_build 2 = .ok (.aload_n 0, 1) := by decide +kernel
theorem dL_build_3 : decode cL_build 3 = .ok (.iload_n 1, 1) := by decide +kernel
theorem dL_build_4 : decode cL_build 4 = .ok (.iload_n 2, 1) := by decide +kernel
theorem dL_build_5 : decode cL_build 5 = .ok (.invokevirtual 7, 3) := by decide +kernel
theorem dL_build_8 : decode cL_build 8 = .ok (.i2l, 1) := by decide +kernel
theorem dL_build_9 : decode cL_build 9 = .ok (.lastore, 1) := by decide +kernel
theorem dL_build_10 : decode cL_build 10 = .ok (.goto 11, 3) := by decide +kernel
theorem dL_build_13 : decode cL_build 13 = .ok (.astore 4, 2) := by decide +kernel
theorem dL_build_15 : decode cL_build 15 = .ok (.iconst 1, 1) := by decide +kernel
theorem dL_build_16 : decode cL_build 16 = .ok (.ireturn, 1) := by decide +kernel
theorem dL_build_17 : decode cL_build 17 = .ok (.astore 4, 2) := by decide +kernel
theorem dL_build_19 : decode cL_build 19 = .ok (.iconst 2, 1) := by decide +kernel
theorem dL_build_20 : decode cL_build 20 = .ok (.ireturn, 1) := by decide +kernel
theorem dL_build_21 : decode cL_build 21 = .ok (.iconst 0, 1) := by decide +kernel
theorem dL_build_22 : decode cL_build 22 = .ok (.ireturn, 1) := by decide +kernel
theorem dL_setSpring_0 : decode cL_setSpring 0 = .ok (.aload_n 3, 1) := by decide +kernel
theorem dL_setSpring_1 : decode cL_setSpring 1 = .ok (.iconst 0, 1) := by decide +kernel
theorem dL_setSpring_2 : decode cL_setSpring 2 = .ok (.aload_n 0, 1) := by decide +kernel
theorem dL_setSpring_3 : decode cL_setSpring 3 = .ok (.iload_n 1, 1) := by decide +kernel
theorem dL_setSpring_4 : decode cL_setSpring 4 = .ok (.iload_n 2, 1) := by decide +kernel
theorem dL_setSpring_5 : decode cL_setSpring 5 = .ok (.invokevirtual 17, 3) := by decide +kernel
theorem dL_setSpring_8 : decode cL_setSpring 8 = .ok (.i2l, 1) := by decide +kernel
theorem dL_setSpring_9 : decode cL_setSpring 9 = .ok (.lastore, 1) := by decide +kernel
theorem dL_setSpring_10 : decode cL_setSpring 10 = .ok (.goto 11, 3) := by decide +kernel
theorem dL_setSpring_13 : decode cL_setSpring 13 = .ok (.astore 4, 2) := by decide +kernel
theorem dL_setSpring_15 : decode cL_setSpring 15 = .ok (.iconst 1, 1) := by decide +kernel
theorem dL_setSpring_16 : decode cL_setSpring 16 = .ok (.ireturn, 1) := by decide +kernel
theorem dL_setSpring_17 : decode cL_setSpring 17 = .ok (.astore 4, 2) := by decide +kernel
theorem dL_setSpring_19 : decode cL_setSpring 19 = .ok (.iconst 2, 1) := by decide +kernel
theorem dL_setSpring_20 : decode cL_setSpring 20 = .ok (.ireturn, 1) := by decide +kernel
theorem dL_setSpring_21 : decode cL_setSpring 21 = .ok (.iconst 0, 1) := by decide +kernel
theorem dL_setSpring_22 : decode cL_setSpring 22 = .ok (.ireturn, 1) := by decide +kernel
theorem dL_setCity_0 : decode cL_setCity 0 = .ok (.aload_n 3, 1) := by decide +kernel
theorem dL_setCity_1 : decode cL_setCity 1 = .ok (.iconst 0, 1) := by decide +kernel
theorem dL_setCity_2 : decode cL_setCity 2 = .ok (.aload_n 0, 1) := by decide +kernel
theorem dL_setCity_3 : decode cL_setCity 3 = .ok (.iload_n 1, 1) := by decide +kernel
theorem dL_setCity_4 : decode cL_setCity 4 = .ok (.iload_n 2, 1) := by decide +kernel
theorem dL_setCity_5 : decode cL_setCity 5 = .ok (.invokevirtual 22, 3) := by decide +kernel
theorem dL_setCity_8 : decode cL_setCity 8 = .ok (.i2l, 1) := by decide +kernel
theorem dL_setCity_9 : decode cL_setCity 9 = .ok (.lastore, 1) := by decide +kernel
theorem dL_setCity_10 : decode cL_setCity 10 = .ok (.goto 11, 3) := by decide +kernel
theorem dL_setCity_13 : decode cL_setCity 13 = .ok (.astore 4, 2) := by decide +kernel
theorem dL_setCity_15 : decode cL_setCity 15 = .ok (.iconst 1, 1) := by decide +kernel
theorem dL_setCity_16 : decode cL_setCity 16 = .ok (.ireturn, 1) := by decide +kernel
theorem dL_setCity_17 : decode cL_setCity 17 = .ok (.astore 4, 2) := by decide +kernel
theorem dL_setCity_19 : decode cL_setCity 19 = .ok (.iconst 2, 1) := by decide +kernel
theorem dL_setCity_20 : decode cL_setCity 20 = .ok (.ireturn, 1) := by decide +kernel
theorem dL_setCity_21 : decode cL_setCity 21 = .ok (.iconst 0, 1) := by decide +kernel
theorem dL_setCity_22 : decode cL_setCity 22 = .ok (.ireturn, 1) := by decide +kernel
theorem dL_setCistern_0 : decode cL_setCistern 0 = .ok (.aload_n 2, 1) := by decide +kernel
theorem dL_setCistern_1 : decode cL_setCistern 1 = .ok (.iconst 0, 1) := by decide +kernel
theorem dL_setCistern_2 : decode cL_setCistern 2 = .ok (.aload_n 0, 1) := by decide +kernel
theorem dL_setCistern_3 : decode cL_setCistern 3 = .ok (.iload_n 1, 1) := by decide +kernel
theorem dL_setCistern_4 : decode cL_setCistern 4 = .ok (.invokevirtual 25, 3) := by decide +kernel
theorem dL_setCistern_7 : decode cL_setCistern 7 = .ok (.i2l, 1) := by decide +kernel
theorem dL_setCistern_8 : decode cL_setCistern 8 = .ok (.lastore, 1) := by decide +kernel
theorem dL_setCistern_9 : decode cL_setCistern 9 = .ok (.goto 6, 3) := by decide +kernel
theorem dL_setCistern_12 : decode cL_setCistern 12 = .ok (.astore_n 3, 1) := by decide +kernel
theorem dL_setCistern_13 : decode cL_setCistern 13 = .ok (.iconst 1, 1) := by decide +kernel
theorem dL_setCistern_14 : decode cL_setCistern 14 = .ok (.ireturn, 1) := by decide +kernel
theorem dL_setCistern_15 : decode cL_setCistern 15 = .ok (.iconst 0, 1) := by decide +kernel
theorem dL_setCistern_16 : decode cL_setCistern 16 = .ok (.ireturn, 1) := by decide +kernel
theorem dL_arch_0 : decode cL_arch 0 = .ok (.aload_n 3, 1) := by decide +kernel
theorem dL_arch_1 : decode cL_arch 1 = .ok (.iconst 0, 1) := by decide +kernel
theorem dL_arch_2 : decode cL_arch 2 = .ok (.aload_n 0, 1) := by decide +kernel
theorem dL_arch_3 : decode cL_arch 3 = .ok (.iload_n 1, 1) := by decide +kernel
theorem dL_arch_4 : decode cL_arch 4 = .ok (.iload_n 2, 1) := by decide +kernel
theorem dL_arch_5 : decode cL_arch 5 = .ok (.invokevirtual 29, 3) := by decide +kernel
theorem dL_arch_8 : decode cL_arch 8 = .ok (.i2l, 1) := by decide +kernel
theorem dL_arch_9 : decode cL_arch 9 = .ok (.lastore, 1) := by decide +kernel
theorem dL_arch_10 : decode cL_arch 10 = .ok (.goto 7, 3) := by decide +kernel
theorem dL_arch_13 : decode cL_arch 13 = .ok (.astore 4, 2) := by decide +kernel
theorem dL_arch_15 : decode cL_arch 15 = .ok (.iconst 1, 1) := by decide +kernel
theorem dL_arch_16 : decode cL_arch 16 = .ok (.ireturn, 1) := by decide +kernel
theorem dL_arch_17 : decode cL_arch 17 = .ok (.iconst 0, 1) := by decide +kernel
theorem dL_arch_18 : decode cL_arch 18 = .ok (.ireturn, 1) := by decide +kernel
theorem dL_addMill_0 : decode cL_addMill 0 = .ok (.aload_n 3, 1) := by decide +kernel
theorem dL_addMill_1 : decode cL_addMill 1 = .ok (.iconst 0, 1) := by decide +kernel
theorem dL_addMill_2 : decode cL_addMill 2 = .ok (.aload_n 0, 1) := by decide +kernel
theorem dL_addMill_3 : decode cL_addMill 3 = .ok (.iload_n 1, 1) := by decide +kernel
theorem dL_addMill_4 : decode cL_addMill 4 = .ok (.iload_n 2, 1) := by decide +kernel
theorem dL_addMill_5 : decode cL_addMill 5 = .ok (.invokevirtual 32, 3) := by decide +kernel
theorem dL_addMill_8 : decode cL_addMill 8 = .ok (.i2l, 1) := by decide +kernel
theorem dL_addMill_9 : decode cL_addMill 9 = .ok (.lastore, 1) := by decide +kernel
theorem dL_addMill_10 : decode cL_addMill 10 = .ok (.goto 15, 3) := by decide +kernel
theorem dL_addMill_13 : decode cL_addMill 13 = .ok (.astore 4, 2) := by decide +kernel
theorem dL_addMill_15 : decode cL_addMill 15 = .ok (.iconst 1, 1) := by decide +kernel
theorem dL_addMill_16 : decode cL_addMill 16 = .ok (.ireturn, 1) := by decide +kernel
theorem dL_addMill_17 : decode cL_addMill 17 = .ok (.astore 4, 2) := by decide +kernel
theorem dL_addMill_19 : decode cL_addMill 19 = .ok (.iconst 2, 1) := by decide +kernel
theorem dL_addMill_20 : decode cL_addMill 20 = .ok (.ireturn, 1) := by decide +kernel
theorem dL_addMill_21 : decode cL_addMill 21 = .ok (.astore 4, 2) := by decide +kernel
theorem dL_addMill_23 : decode cL_addMill 23 = .ok (.iconst 3, 1) := by decide +kernel
theorem dL_addMill_24 : decode cL_addMill 24 = .ok (.ireturn, 1) := by decide +kernel
theorem dL_addMill_25 : decode cL_addMill 25 = .ok (.iconst 0, 1) := by decide +kernel
theorem dL_addMill_26 : decode cL_addMill 26 = .ok (.ireturn, 1) := by decide +kernel
theorem dL_setSluice_0 : decode cL_setSluice 0 = .ok (.aload_n 3, 1) := by decide +kernel
theorem dL_setSluice_1 : decode cL_setSluice 1 = .ok (.iconst 0, 1) := by decide +kernel
theorem dL_setSluice_2 : decode cL_setSluice 2 = .ok (.aload_n 0, 1) := by decide +kernel
theorem dL_setSluice_3 : decode cL_setSluice 3 = .ok (.iload_n 1, 1) := by decide +kernel
theorem dL_setSluice_4 : decode cL_setSluice 4 = .ok (.iload_n 2, 1) := by decide +kernel
theorem dL_setSluice_5 : decode cL_setSluice 5 = .ok (.invokevirtual 35, 3) := by decide +kernel
theorem dL_setSluice_8 : decode cL_setSluice 8 = .ok (.i2l, 1) := by decide +kernel
theorem dL_setSluice_9 : decode cL_setSluice 9 = .ok (.lastore, 1) := by decide +kernel
theorem dL_setSluice_10 : decode cL_setSluice 10 = .ok (.goto 15, 3) := by decide +kernel
theorem dL_setSluice_13 : decode cL_setSluice 13 = .ok (.astore 4, 2) := by decide +kernel
theorem dL_setSluice_15 : decode cL_setSluice 15 = .ok (.iconst 1, 1) := by decide +kernel
theorem dL_setSluice_16 : decode cL_setSluice 16 = .ok (.ireturn, 1) := by decide +kernel
theorem dL_setSluice_17 : decode cL_setSluice 17 = .ok (.astore 4, 2) := by decide +kernel
theorem dL_setSluice_19 : decode cL_setSluice 19 = .ok (.iconst 2, 1) := by decide +kernel
theorem dL_setSluice_20 : decode cL_setSluice 20 = .ok (.ireturn, 1) := by decide +kernel
theorem dL_setSluice_21 : decode cL_setSluice 21 = .ok (.astore 4, 2) := by decide +kernel
theorem dL_setSluice_23 : decode cL_setSluice 23 = .ok (.iconst 3, 1) := by decide +kernel
theorem dL_setSluice_24 : decode cL_setSluice 24 = .ok (.ireturn, 1) := by decide +kernel
theorem dL_setSluice_25 : decode cL_setSluice 25 = .ok (.iconst 0, 1) := by decide +kernel
theorem dL_setSluice_26 : decode cL_setSluice 26 = .ok (.ireturn, 1) := by decide +kernel
theorem dL_mill_0 : decode cL_mill 0 = .ok (.aload_n 3, 1) := by decide +kernel
theorem dL_mill_1 : decode cL_mill 1 = .ok (.iconst 0, 1) := by decide +kernel
theorem dL_mill_2 : decode cL_mill 2 = .ok (.aload_n 0, 1) := by decide +kernel
theorem dL_mill_3 : decode cL_mill 3 = .ok (.iload_n 1, 1) := by decide +kernel
theorem dL_mill_4 : decode cL_mill 4 = .ok (.iload_n 2, 1) := by decide +kernel
theorem dL_mill_5 : decode cL_mill 5 = .ok (.invokevirtual 38, 3) := by decide +kernel
theorem dL_mill_8 : decode cL_mill 8 = .ok (.i2l, 1) := by decide +kernel
theorem dL_mill_9 : decode cL_mill 9 = .ok (.lastore, 1) := by decide +kernel
theorem dL_mill_10 : decode cL_mill 10 = .ok (.goto 7, 3) := by decide +kernel
theorem dL_mill_13 : decode cL_mill 13 = .ok (.astore 4, 2) := by decide +kernel
theorem dL_mill_15 : decode cL_mill 15 = .ok (.iconst 1, 1) := by decide +kernel
theorem dL_mill_16 : decode cL_mill 16 = .ok (.ireturn, 1) := by decide +kernel
theorem dL_mill_17 : decode cL_mill 17 = .ok (.iconst 0, 1) := by decide +kernel
theorem dL_mill_18 : decode cL_mill 18 = .ok (.ireturn, 1) := by decide +kernel
theorem dL_mend_0 : decode cL_mend 0 = .ok (.aload_n 2, 1) := by decide +kernel
theorem dL_mend_1 : decode cL_mend 1 = .ok (.iconst 0, 1) := by decide +kernel
theorem dL_mend_2 : decode cL_mend 2 = .ok (.aload_n 0, 1) := by decide +kernel
theorem dL_mend_3 : decode cL_mend 3 = .ok (.iload_n 1, 1) := by decide +kernel
theorem dL_mend_4 : decode cL_mend 4 = .ok (.invokevirtual 41, 3) := by decide +kernel
theorem dL_mend_7 : decode cL_mend 7 = .ok (.i2l, 1) := by decide +kernel
theorem dL_mend_8 : decode cL_mend 8 = .ok (.lastore, 1) := by decide +kernel
theorem dL_mend_9 : decode cL_mend 9 = .ok (.goto 9, 3) := by decide +kernel
theorem dL_mend_12 : decode cL_mend 12 = .ok (.astore_n 3, 1) := by decide +kernel
theorem dL_mend_13 : decode cL_mend 13 = .ok (.iconst 1, 1) := by decide +kernel
theorem dL_mend_14 : decode cL_mend 14 = .ok (.ireturn, 1) := by decide +kernel
theorem dL_mend_15 : decode cL_mend 15 = .ok (.astore_n 3, 1) := by decide +kernel
theorem dL_mend_16 : decode cL_mend 16 = .ok (.iconst 2, 1) := by decide +kernel
theorem dL_mend_17 : decode cL_mend 17 = .ok (.ireturn, 1) := by decide +kernel
theorem dL_mend_18 : decode cL_mend 18 = .ok (.iconst 0, 1) := by decide +kernel
theorem dL_mend_19 : decode cL_mend 19 = .ok (.ireturn, 1) := by decide +kernel
theorem dL_quake_0 : decode cL_quake 0 = .ok (.aload_n 3, 1) := by decide +kernel
theorem dL_quake_1 : decode cL_quake 1 = .ok (.iconst 0, 1) := by decide +kernel
theorem dL_quake_2 : decode cL_quake 2 = .ok (.aload_n 0, 1) := by decide +kernel
theorem dL_quake_3 : decode cL_quake 3 = .ok (.iload_n 1, 1) := by decide +kernel
theorem dL_quake_4 : decode cL_quake 4 = .ok (.iload_n 2, 1) := by decide +kernel
theorem dL_quake_5 : decode cL_quake 5 = .ok (.invokevirtual 44, 3) := by decide +kernel
theorem dL_quake_8 : decode cL_quake 8 = .ok (.i2l, 1) := by decide +kernel
theorem dL_quake_9 : decode cL_quake 9 = .ok (.lastore, 1) := by decide +kernel
theorem dL_quake_10 : decode cL_quake 10 = .ok (.goto 11, 3) := by decide +kernel
theorem dL_quake_13 : decode cL_quake 13 = .ok (.astore 4, 2) := by decide +kernel
theorem dL_quake_15 : decode cL_quake 15 = .ok (.iconst 1, 1) := by decide +kernel
theorem dL_quake_16 : decode cL_quake 16 = .ok (.ireturn, 1) := by decide +kernel
theorem dL_quake_17 : decode cL_quake 17 = .ok (.astore 4, 2) := by decide +kernel
theorem dL_quake_19 : decode cL_quake 19 = .ok (.iconst 2, 1) := by decide +kernel
theorem dL_quake_20 : decode cL_quake 20 = .ok (.ireturn, 1) := by decide +kernel
theorem dL_quake_21 : decode cL_quake 21 = .ok (.iconst 0, 1) := by decide +kernel
theorem dL_quake_22 : decode cL_quake 22 = .ok (.ireturn, 1) := by decide +kernel
theorem dL_pass_0 : decode cL_pass 0 = .ok (.aload_n 2, 1) := by decide +kernel
theorem dL_pass_1 : decode cL_pass 1 = .ok (.iconst 0, 1) := by decide +kernel
theorem dL_pass_2 : decode cL_pass 2 = .ok (.aload_n 0, 1) := by decide +kernel
theorem dL_pass_3 : decode cL_pass 3 = .ok (.iload_n 1, 1) := by decide +kernel
theorem dL_pass_4 : decode cL_pass 4 = .ok (.invokevirtual 47, 3) := by decide +kernel
theorem dL_pass_7 : decode cL_pass 7 = .ok (.i2l, 1) := by decide +kernel
theorem dL_pass_8 : decode cL_pass 8 = .ok (.lastore, 1) := by decide +kernel
theorem dL_pass_9 : decode cL_pass 9 = .ok (.goto 6, 3) := by decide +kernel
theorem dL_pass_12 : decode cL_pass 12 = .ok (.astore_n 3, 1) := by decide +kernel
theorem dL_pass_13 : decode cL_pass 13 = .ok (.iconst 1, 1) := by decide +kernel
theorem dL_pass_14 : decode cL_pass 14 = .ok (.ireturn, 1) := by decide +kernel
theorem dL_pass_15 : decode cL_pass 15 = .ok (.iconst 0, 1) := by decide +kernel
theorem dL_pass_16 : decode cL_pass 16 = .ok (.ireturn, 1) := by decide +kernel
theorem dL_count_0 : decode cL_count 0 = .ok (.aload_n 2, 1) := by decide +kernel
theorem dL_count_1 : decode cL_count 1 = .ok (.iconst 0, 1) := by decide +kernel
theorem dL_count_2 : decode cL_count 2 = .ok (.aload_n 0, 1) := by decide +kernel
theorem dL_count_3 : decode cL_count 3 = .ok (.iload_n 1, 1) := by decide +kernel
theorem dL_count_4 : decode cL_count 4 = .ok (.invokevirtual 50, 3) := by decide +kernel
theorem dL_count_7 : decode cL_count 7 = .ok (.i2l, 1) := by decide +kernel
theorem dL_count_8 : decode cL_count 8 = .ok (.lastore, 1) := by decide +kernel
theorem dL_count_9 : decode cL_count 9 = .ok (.goto 6, 3) := by decide +kernel
theorem dL_count_12 : decode cL_count 12 = .ok (.astore_n 3, 1) := by decide +kernel
theorem dL_count_13 : decode cL_count 13 = .ok (.iconst 1, 1) := by decide +kernel
theorem dL_count_14 : decode cL_count 14 = .ok (.ireturn, 1) := by decide +kernel
theorem dL_count_15 : decode cL_count 15 = .ok (.iconst 0, 1) := by decide +kernel
theorem dL_count_16 : decode cL_count 16 = .ok (.ireturn, 1) := by decide +kernel
theorem dL_foresee_0 : decode cL_foresee 0 = .ok (.aload_n 3, 1) := by decide +kernel
theorem dL_foresee_1 : decode cL_foresee 1 = .ok (.iconst 0, 1) := by decide +kernel
theorem dL_foresee_2 : decode cL_foresee 2 = .ok (.aload_n 0, 1) := by decide +kernel
theorem dL_foresee_3 : decode cL_foresee 3 = .ok (.iload_n 1, 1) := by decide +kernel
theorem dL_foresee_4 : decode cL_foresee 4 = .ok (.iload_n 2, 1) := by decide +kernel
theorem dL_foresee_5 : decode cL_foresee 5 = .ok (.invokevirtual 53, 3) := by decide +kernel
theorem dL_foresee_8 : decode cL_foresee 8 = .ok (.i2l, 1) := by decide +kernel
theorem dL_foresee_9 : decode cL_foresee 9 = .ok (.lastore, 1) := by decide +kernel
theorem dL_foresee_10 : decode cL_foresee 10 = .ok (.goto 11, 3) := by decide +kernel
theorem dL_foresee_13 : decode cL_foresee 13 = .ok (.astore 4, 2) := by decide +kernel
theorem dL_foresee_15 : decode cL_foresee 15 = .ok (.iconst 1, 1) := by decide +kernel
theorem dL_foresee_16 : decode cL_foresee 16 = .ok (.ireturn, 1) := by decide +kernel
theorem dL_foresee_17 : decode cL_foresee 17 = .ok (.astore 4, 2) := by decide +kernel
theorem dL_foresee_19 : decode cL_foresee 19 = .ok (.iconst 2, 1) := by decide +kernel
theorem dL_foresee_20 : decode cL_foresee 20 = .ok (.ireturn, 1) := by decide +kernel
theorem dL_foresee_21 : decode cL_foresee 21 = .ok (.iconst 0, 1) := by decide +kernel
theorem dL_foresee_22 : decode cL_foresee 22 = .ok (.ireturn, 1) := by decide +kernel
theorem dL_advise_0 : decode cL_advise 0 = .ok (.aload_n 2, 1) := by decide +kernel
theorem dL_advise_1 : decode cL_advise 1 = .ok (.iconst 0, 1) := by decide +kernel
theorem dL_advise_2 : decode cL_advise 2 = .ok (.aload_n 0, 1) := by decide +kernel
theorem dL_advise_3 : decode cL_advise 3 = .ok (.iload_n 1, 1) := by decide +kernel
theorem dL_advise_4 : decode cL_advise 4 = .ok (.invokevirtual 56, 3) := by decide +kernel
theorem dL_advise_7 : decode cL_advise 7 = .ok (.i2l, 1) := by decide +kernel
theorem dL_advise_8 : decode cL_advise 8 = .ok (.lastore, 1) := by decide +kernel
theorem dL_advise_9 : decode cL_advise 9 = .ok (.goto 6, 3) := by decide +kernel
theorem dL_advise_12 : decode cL_advise 12 = .ok (.astore_n 3, 1) := by decide +kernel
theorem dL_advise_13 : decode cL_advise 13 = .ok (.iconst 1, 1) := by decide +kernel
theorem dL_advise_14 : decode cL_advise 14 = .ok (.ireturn, 1) := by decide +kernel
theorem dL_advise_15 : decode cL_advise 15 = .ok (.iconst 0, 1) := by decide +kernel
theorem dL_advise_16 : decode cL_advise 16 = .ok (.ireturn, 1) := by decide +kernel
