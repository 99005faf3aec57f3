/-! THE LAW'S OWN METHODS, over whole objects -/
theorem dL_setCell_0 : decode cL_setCell 0 = .ok (.aload_n 0, 1) := by decide +kernel
theorem dL_setCell_1 : decode cL_setCell 1 = .ok (.iload_n 1, 1) := by decide +kernel
theorem dL_setCell_2 : decode cL_setCell 2 = .ok (.iload_n 2, 1) := by decide +kernel
theorem dL_setCell_3 : decode cL_setCell 3 = .ok (.iload_n 3, 1) := by decide +kernel
theorem dL_setCell_4 : decode cL_setCell 4 = .ok (.iload 4, 2) := by decide +kernel
theorem dL_setCell_6 : decode cL_setCell 6 = .ok (.invokevirtual 13, 3) := by decide +kernel
theorem dL_setCell_9 : decode cL_setCell 9 = .ok (.ireturn, 1) := by decide +kernel
theorem dL_setCell_10 : decode cL_setCell 10 = .ok (.astore 5, 2) := by decide +kernel
theorem dL_setCell_12 : decode cL_setCell 12 = .ok (.ldc 21, 2) := by decide +kernel
theorem dL_setCell_14 : decode cL_setCell 14 = .ok (.ireturn, 1) := by decide +kernel
theorem dL_setCell_15 : decode cL_setCell 15 = .ok (.astore 5, 2) := by decide +kernel
theorem dL_setCell_17 : decode cL_setCell 17 = .ok (.ldc 24, 2) := by decide +kernel
theorem dL_setCell_19 : decode cL_setCell 19 = .ok (.ireturn, 1) := by decide +kernel
theorem dL_setGround_0 : decode cL_setGround 0 = .ok (.aload_n 0, 1) := by decide +kernel
theorem dL_setGround_1 : decode cL_setGround 1 = .ok (.iload_n 1, 1) := by decide +kernel
theorem dL_setGround_2 : decode cL_setGround 2 = .ok (.iload_n 2, 1) := by decide +kernel
theorem dL_setGround_3 : decode cL_setGround 3 = .ok (.invokevirtual 25, 3) := by decide +kernel
theorem dL_setGround_6 : decode cL_setGround 6 = .ok (.ireturn, 1) := by decide +kernel
theorem dL_setGround_7 : decode cL_setGround 7 = .ok (.astore_n 3, 1) := by decide +kernel
theorem dL_setGround_8 : decode cL_setGround 8 = .ok (.ldc 21, 2) := by decide +kernel
theorem dL_setGround_10 : decode cL_setGround 10 = .ok (.ireturn, 1) := by decide +kernel
theorem dL_setGround_11 : decode cL_setGround 11 = .ok (.astore_n 3, 1) := by decide +kernel
theorem dL_setGround_12 : decode cL_setGround 12 = .ok (.ldc 24, 2) := by decide +kernel
theorem dL_setGround_14 : decode cL_setGround 14 = .ok (.ireturn, 1) := by decide +kernel
theorem dL_setConductance_0 : decode cL_setConductance 0 = .ok (.aload_n 0, 1) := by decide +kernel
theorem dL_setConductance_1 : decode cL_setConductance 1 = .ok (.iload_n 1, 1) := by decide +kernel
theorem dL_setConductance_2 : decode cL_setConductance 2 = .ok (.iload_n 2, 1) := by decide +kernel
theorem dL_setConductance_3 : decode cL_setConductance 3 = .ok (.invokevirtual 29, 3) := by decide +kernel
theorem dL_setConductance_6 : decode cL_setConductance 6 = .ok (.ireturn, 1) := by decide +kernel
theorem dL_setConductance_7 : decode cL_setConductance 7 = .ok (.astore_n 3, 1) := by decide +kernel
theorem dL_setConductance_8 : decode cL_setConductance 8 = .ok (.ldc 21, 2) := by decide +kernel
theorem dL_setConductance_10 : decode cL_setConductance 10 = .ok (.ireturn, 1) := by decide +kernel
theorem dL_setConductance_11 : decode cL_setConductance 11 = .ok (.astore_n 3, 1) := by decide +kernel
theorem dL_setConductance_12 : decode cL_setConductance 12 = .ok (.ldc 24, 2) := by decide +kernel
theorem dL_setConductance_14 : decode cL_setConductance 14 = .ok (.ireturn, 1) := by decide +kernel
theorem dL_setLeakage_0 : decode cL_setLeakage 0 = .ok (.aload_n 0, 1) := by decide +kernel
theorem dL_setLeakage_1 : decode cL_setLeakage 1 = .ok (.iload_n 1, 1) := by decide +kernel
theorem dL_setLeakage_2 : decode cL_setLeakage 2 = .ok (.iload_n 2, 1) := by decide +kernel
theorem dL_setLeakage_3 : decode cL_setLeakage 3 = .ok (.invokevirtual 32, 3) := by decide +kernel
theorem dL_setLeakage_6 : decode cL_setLeakage 6 = .ok (.ireturn, 1) := by decide +kernel
theorem dL_setLeakage_7 : decode cL_setLeakage 7 = .ok (.astore_n 3, 1) := by decide +kernel
theorem dL_setLeakage_8 : decode cL_setLeakage 8 = .ok (.ldc 21, 2) := by decide +kernel
theorem dL_setLeakage_10 : decode cL_setLeakage 10 = .ok (.ireturn, 1) := by decide +kernel
theorem dL_setLeakage_11 : decode cL_setLeakage 11 = .ok (.astore_n 3, 1) := by decide +kernel
theorem dL_setLeakage_12 : decode cL_setLeakage 12 = .ok (.ldc 24, 2) := by decide +kernel
theorem dL_setLeakage_14 : decode cL_setLeakage 14 = .ok (.ireturn, 1) := by decide +kernel
theorem dL_setRain_0 : decode cL_setRain 0 = .ok (.aload_n 0, 1) := by decide +kernel
theorem dL_setRain_1 : decode cL_setRain 1 = .ok (.iload_n 1, 1) := by decide +kernel
theorem dL_setRain_2 : decode cL_setRain 2 = .ok (.iload_n 2, 1) := by decide +kernel
theorem dL_setRain_3 : decode cL_setRain 3 = .ok (.invokevirtual 35, 3) := by decide +kernel
theorem dL_setRain_6 : decode cL_setRain 6 = .ok (.ireturn, 1) := by decide +kernel
theorem dL_setRain_7 : decode cL_setRain 7 = .ok (.astore_n 3, 1) := by decide +kernel
theorem dL_setRain_8 : decode cL_setRain 8 = .ok (.ldc 21, 2) := by decide +kernel
theorem dL_setRain_10 : decode cL_setRain 10 = .ok (.ireturn, 1) := by decide +kernel
theorem dL_setRain_11 : decode cL_setRain 11 = .ok (.astore_n 3, 1) := by decide +kernel
theorem dL_setRain_12 : decode cL_setRain 12 = .ok (.ldc 24, 2) := by decide +kernel
theorem dL_setRain_14 : decode cL_setRain 14 = .ok (.ireturn, 1) := by decide +kernel
theorem dL_setBed_0 : decode cL_setBed 0 = .ok (.aload_n 0, 1) := by decide +kernel
theorem dL_setBed_1 : decode cL_setBed 1 = .ok (.iload_n 1, 1) := by decide +kernel
theorem dL_setBed_2 : decode cL_setBed 2 = .ok (.iload_n 2, 1) := by decide +kernel
theorem dL_setBed_3 : decode cL_setBed 3 = .ok (.iload_n 3, 1) := by decide +kernel
theorem dL_setBed_4 : decode cL_setBed 4 = .ok (.invokevirtual 38, 3) := by decide +kernel
theorem dL_setBed_7 : decode cL_setBed 7 = .ok (.ireturn, 1) := by decide +kernel
theorem dL_setBed_8 : decode cL_setBed 8 = .ok (.astore 4, 2) := by decide +kernel
theorem dL_setBed_10 : decode cL_setBed 10 = .ok (.ldc 21, 2) := by decide +kernel
theorem dL_setBed_12 : decode cL_setBed 12 = .ok (.ireturn, 1) := by decide +kernel
theorem dL_setBed_13 : decode cL_setBed 13 = .ok (.astore 4, 2) := by decide +kernel
theorem dL_setBed_15 : decode cL_setBed 15 = .ok (.ldc 24, 2) := by decide +kernel
theorem dL_setBed_17 : decode cL_setBed 17 = .ok (.ireturn, 1) := by decide +kernel
theorem dL_setRiver_0 : decode cL_setRiver 0 = .ok (.aload_n 0, 1) := by decide +kernel
theorem dL_setRiver_1 : decode cL_setRiver 1 = .ok (.iload_n 1, 1) := by decide +kernel
theorem dL_setRiver_2 : decode cL_setRiver 2 = .ok (.invokevirtual 42, 3) := by decide +kernel
theorem dL_setRiver_5 : decode cL_setRiver 5 = .ok (.ireturn, 1) := by decide +kernel
theorem dL_setRiver_6 : decode cL_setRiver 6 = .ok (.astore_n 2, 1) := by decide +kernel
theorem dL_setRiver_7 : decode cL_setRiver 7 = .ok (.ldc 24, 2) := by decide +kernel
theorem dL_setRiver_9 : decode cL_setRiver 9 = .ok (.ireturn, 1) := by decide +kernel
theorem dL_setSea_0 : decode cL_setSea 0 = .ok (.aload_n 0, 1) := by decide +kernel
theorem dL_setSea_1 : decode cL_setSea 1 = .ok (.iload_n 1, 1) := by decide +kernel
theorem dL_setSea_2 : decode cL_setSea 2 = .ok (.invokevirtual 46, 3) := by decide +kernel
theorem dL_setSea_5 : decode cL_setSea 5 = .ok (.ireturn, 1) := by decide +kernel
theorem dL_setSea_6 : decode cL_setSea 6 = .ok (.astore_n 2, 1) := by decide +kernel
theorem dL_setSea_7 : decode cL_setSea 7 = .ok (.ldc 24, 2) := by decide +kernel
theorem dL_setSea_9 : decode cL_setSea 9 = .ok (.ireturn, 1) := by decide +kernel
theorem dL_addWell_0 : decode cL_addWell 0 = .ok (.aload_n 0, 1) := by decide +kernel
theorem dL_addWell_1 : decode cL_addWell 1 = .ok (.iload_n 1, 1) := by decide +kernel
theorem dL_addWell_2 : decode cL_addWell 2 = .ok (.iload_n 2, 1) := by decide +kernel
theorem dL_addWell_3 : decode cL_addWell 3 = .ok (.iload_n 3, 1) := by decide +kernel
theorem dL_addWell_4 : decode cL_addWell 4 = .ok (.invokevirtual 49, 3) := by decide +kernel
theorem dL_addWell_7 : decode cL_addWell 7 = .ok (.ireturn, 1) := by decide +kernel
theorem dL_addWell_8 : decode cL_addWell 8 = .ok (.astore 4, 2) := by decide +kernel
theorem dL_addWell_10 : decode cL_addWell 10 = .ok (.ldc 21, 2) := by decide +kernel
theorem dL_addWell_12 : decode cL_addWell 12 = .ok (.ireturn, 1) := by decide +kernel
theorem dL_addWell_13 : decode cL_addWell 13 = .ok (.astore 4, 2) := by decide +kernel
theorem dL_addWell_15 : decode cL_addWell 15 = .ok (.ldc 24, 2) := by decide +kernel
theorem dL_addWell_17 : decode cL_addWell 17 = .ok (.ireturn, 1) := by decide +kernel
theorem dL_addWell_18 : decode cL_addWell 18 = .ok (.astore 4, 2) := by decide +kernel
theorem dL_addWell_20 : decode cL_addWell 20 = .ok (.ldc 54, 2) := by decide +kernel
theorem dL_addWell_22 : decode cL_addWell 22 = .ok (.ireturn, 1) := by decide +kernel
theorem dL_setWish_0 : decode cL_setWish 0 = .ok (.aload_n 0, 1) := by decide +kernel
theorem dL_setWish_1 : decode cL_setWish 1 = .ok (.iload_n 1, 1) := by decide +kernel
theorem dL_setWish_2 : decode cL_setWish 2 = .ok (.iload_n 2, 1) := by decide +kernel
theorem dL_setWish_3 : decode cL_setWish 3 = .ok (.invokevirtual 55, 3) := by decide +kernel
theorem dL_setWish_6 : decode cL_setWish 6 = .ok (.ireturn, 1) := by decide +kernel
theorem dL_setWish_7 : decode cL_setWish 7 = .ok (.astore_n 3, 1) := by decide +kernel
theorem dL_setWish_8 : decode cL_setWish 8 = .ok (.ldc 21, 2) := by decide +kernel
theorem dL_setWish_10 : decode cL_setWish 10 = .ok (.ireturn, 1) := by decide +kernel
theorem dL_setWish_11 : decode cL_setWish 11 = .ok (.astore_n 3, 1) := by decide +kernel
theorem dL_setWish_12 : decode cL_setWish 12 = .ok (.ldc 24, 2) := by decide +kernel
theorem dL_setWish_14 : decode cL_setWish 14 = .ok (.ireturn, 1) := by decide +kernel
theorem dL_transfer_0 : decode cL_transfer 0 = .ok (.aload_n 0, 1) := by decide +kernel
theorem dL_transfer_1 : decode cL_transfer 1 = .ok (.iload_n 1, 1) := by decide +kernel
theorem dL_transfer_2 : decode cL_transfer 2 = .ok (.iload_n 2, 1) := by decide +kernel
theorem dL_transfer_3 : decode cL_transfer 3 = .ok (.iload_n 3, 1) := by decide +kernel
theorem dL_transfer_4 : decode cL_transfer 4 = .ok (.invokevirtual 58, 3) := by decide +kernel
theorem dL_transfer_7 : decode cL_transfer 7 = .ok (.ireturn, 1) := by decide +kernel
theorem dL_transfer_8 : decode cL_transfer 8 = .ok (.astore 4, 2) := by decide +kernel
theorem dL_transfer_10 : decode cL_transfer 10 = .ok (.ldc 21, 2) := by decide +kernel
theorem dL_transfer_12 : decode cL_transfer 12 = .ok (.ireturn, 1) := by decide +kernel
theorem dL_transfer_13 : decode cL_transfer 13 = .ok (.astore 4, 2) := by decide +kernel
theorem dL_transfer_15 : decode cL_transfer 15 = .ok (.ldc 24, 2) := by decide +kernel
theorem dL_transfer_17 : decode cL_transfer 17 = .ok (.ireturn, 1) := by decide +kernel
theorem dL_transfer_18 : decode cL_transfer 18 = .ok (.astore 4, 2) := by decide +kernel
theorem dL_transfer_20 : decode cL_transfer 20 = .ok (.ldc 63, 2) := by decide +kernel
theorem dL_transfer_22 : decode cL_transfer 22 = .ok (.ireturn, 1) := by decide +kernel
theorem dL_level_0 : decode cL_level 0 = .ok (.aload_n 0, 1) := by decide +kernel
theorem dL_level_1 : decode cL_level 1 = .ok (.iload_n 1, 1) := by decide +kernel
theorem dL_level_2 : decode cL_level 2 = .ok (.invokevirtual 64, 3) := by decide +kernel
theorem dL_level_5 : decode cL_level 5 = .ok (.ireturn, 1) := by decide +kernel
theorem dL_level_6 : decode cL_level 6 = .ok (.astore_n 2, 1) := by decide +kernel
theorem dL_level_7 : decode cL_level 7 = .ok (.ldc 21, 2) := by decide +kernel
theorem dL_level_9 : decode cL_level 9 = .ok (.ireturn, 1) := by decide +kernel
theorem dL_water_0 : decode cL_water 0 = .ok (.aload_n 0, 1) := by decide +kernel
theorem dL_water_1 : decode cL_water 1 = .ok (.iload_n 1, 1) := by decide +kernel
theorem dL_water_2 : decode cL_water 2 = .ok (.invokevirtual 67, 3) := by decide +kernel
theorem dL_water_5 : decode cL_water 5 = .ok (.ireturn, 1) := by decide +kernel
theorem dL_water_6 : decode cL_water 6 = .ok (.astore_n 2, 1) := by decide +kernel
theorem dL_water_7 : decode cL_water 7 = .ok (.ldc 21, 2) := by decide +kernel
theorem dL_water_9 : decode cL_water 9 = .ok (.ireturn, 1) := by decide +kernel
theorem dL_salt_0 : decode cL_salt 0 = .ok (.aload_n 0, 1) := by decide +kernel
theorem dL_salt_1 : decode cL_salt 1 = .ok (.iload_n 1, 1) := by decide +kernel
theorem dL_salt_2 : decode cL_salt 2 = .ok (.invokevirtual 70, 3) := by decide +kernel
theorem dL_salt_5 : decode cL_salt 5 = .ok (.ireturn, 1) := by decide +kernel
theorem dL_salt_6 : decode cL_salt 6 = .ok (.astore_n 2, 1) := by decide +kernel
theorem dL_salt_7 : decode cL_salt 7 = .ok (.ldc 21, 2) := by decide +kernel
theorem dL_salt_9 : decode cL_salt 9 = .ok (.ireturn, 1) := by decide +kernel
theorem dL_amount_0 : decode cL_amount 0 = .ok (.aload_n 0, 1) := by decide +kernel
theorem dL_amount_1 : decode cL_amount 1 = .ok (.iload_n 1, 1) := by decide +kernel
theorem dL_amount_2 : decode cL_amount 2 = .ok (.invokevirtual 73, 3) := by decide +kernel
theorem dL_amount_5 : decode cL_amount 5 = .ok (.ireturn, 1) := by decide +kernel
theorem dL_amount_6 : decode cL_amount 6 = .ok (.astore_n 2, 1) := by decide +kernel
theorem dL_amount_7 : decode cL_amount 7 = .ok (.ldc 21, 2) := by decide +kernel
theorem dL_amount_9 : decode cL_amount 9 = .ok (.ireturn, 1) := by decide +kernel
theorem dL_yearly_0 : decode cL_yearly 0 = .ok (.aload_n 0, 1) := by decide +kernel
theorem dL_yearly_1 : decode cL_yearly 1 = .ok (.iload_n 1, 1) := by decide +kernel
theorem dL_yearly_2 : decode cL_yearly 2 = .ok (.invokevirtual 76, 3) := by decide +kernel
theorem dL_yearly_5 : decode cL_yearly 5 = .ok (.ireturn, 1) := by decide +kernel
theorem dL_yearly_6 : decode cL_yearly 6 = .ok (.astore_n 2, 1) := by decide +kernel
theorem dL_yearly_7 : decode cL_yearly 7 = .ok (.ldc 21, 2) := by decide +kernel
theorem dL_yearly_9 : decode cL_yearly 9 = .ok (.ireturn, 1) := by decide +kernel
theorem dL_pumped_0 : decode cL_pumped 0 = .ok (.aload_n 0, 1) := by decide +kernel
theorem dL_pumped_1 : decode cL_pumped 1 = .ok (.iload_n 1, 1) := by decide +kernel
theorem dL_pumped_2 : decode cL_pumped 2 = .ok (.invokevirtual 79, 3) := by decide +kernel
theorem dL_pumped_5 : decode cL_pumped 5 = .ok (.lreturn, 1) := by decide +kernel
theorem dL_pumped_6 : decode cL_pumped 6 = .ok (.astore_n 2, 1) := by decide +kernel
theorem dL_pumped_7 : decode cL_pumped 7 = .ok (.ldc2_w 83, 3) := by decide +kernel
theorem dL_pumped_10 : decode cL_pumped 10 = .ok (.lreturn, 1) := by decide +kernel
theorem dL_byAge_0 : decode cL_byAge 0 = .ok (.aload_n 0, 1) := by decide +kernel
theorem dL_byAge_1 : decode cL_byAge 1 = .ok (.iload_n 1, 1) := by decide +kernel
theorem dL_byAge_2 : decode cL_byAge 2 = .ok (.invokevirtual 85, 3) := by decide +kernel
theorem dL_byAge_5 : decode cL_byAge 5 = .ok (.ireturn, 1) := by decide +kernel
theorem dL_byAge_6 : decode cL_byAge 6 = .ok (.astore_n 2, 1) := by decide +kernel
theorem dL_byAge_7 : decode cL_byAge 7 = .ok (.ldc 90, 2) := by decide +kernel
theorem dL_byAge_9 : decode cL_byAge 9 = .ok (.ireturn, 1) := by decide +kernel
theorem dL_pumpedWithout_0 : decode cL_pumpedWithout 0 = .ok (.aload_n 0, 1) := by decide +kernel
theorem dL_pumpedWithout_1 : decode cL_pumpedWithout 1 = .ok (.iload_n 1, 1) := by decide +kernel
theorem dL_pumpedWithout_2 : decode cL_pumpedWithout 2 = .ok (.iload_n 2, 1) := by decide +kernel
theorem dL_pumpedWithout_3 : decode cL_pumpedWithout 3 = .ok (.invokevirtual 91, 3) := by decide +kernel
theorem dL_pumpedWithout_6 : decode cL_pumpedWithout 6 = .ok (.lreturn, 1) := by decide +kernel
theorem dL_pumpedWithout_7 : decode cL_pumpedWithout 7 = .ok (.astore_n 3, 1) := by decide +kernel
theorem dL_pumpedWithout_8 : decode cL_pumpedWithout 8 = .ok (.ldc2_w 83, 3) := by decide +kernel
theorem dL_pumpedWithout_11 : decode cL_pumpedWithout 11 = .ok (.lreturn, 1) := by decide +kernel
theorem dL_pumpedWithout_12 : decode cL_pumpedWithout 12 = .ok (.astore_n 3, 1) := by decide +kernel
theorem dL_pumpedWithout_13 : decode cL_pumpedWithout 13 = .ok (.ldc2_w 95, 3) := by decide +kernel
theorem dL_pumpedWithout_16 : decode cL_pumpedWithout 16 = .ok (.lreturn, 1) := by decide +kernel
theorem dL_eventAt_0 : decode cL_eventAt 0 = .ok (.aload_n 0, 1) := by decide +kernel
theorem dL_eventAt_1 : decode cL_eventAt 1 = .ok (.iload_n 1, 1) := by decide +kernel
theorem dL_eventAt_2 : decode cL_eventAt 2 = .ok (.invokevirtual 97, 3) := by decide +kernel
theorem dL_eventAt_5 : decode cL_eventAt 5 = .ok (.ireturn, 1) := by decide +kernel
theorem dL_eventAt_6 : decode cL_eventAt 6 = .ok (.astore_n 2, 1) := by decide +kernel
theorem dL_eventAt_7 : decode cL_eventAt 7 = .ok (.ldc 21, 2) := by decide +kernel
theorem dL_eventAt_9 : decode cL_eventAt 9 = .ok (.ireturn, 1) := by decide +kernel
theorem dL_account_0 : decode cL_account 0 = .ok (.aload_n 0, 1) := by decide +kernel
theorem dL_account_1 : decode cL_account 1 = .ok (.iload_n 1, 1) := by decide +kernel
theorem dL_account_2 : decode cL_account 2 = .ok (.invokevirtual 101, 3) := by decide +kernel
theorem dL_account_5 : decode cL_account 5 = .ok (.lreturn, 1) := by decide +kernel
theorem dL_account_6 : decode cL_account 6 = .ok (.astore_n 2, 1) := by decide +kernel
theorem dL_account_7 : decode cL_account 7 = .ok (.ldc2_w 105, 3) := by decide +kernel
theorem dL_account_10 : decode cL_account 10 = .ok (.lreturn, 1) := by decide +kernel
theorem dL_pass_0 : decode cL_pass 0 = .ok (.aload_n 0, 1) := by decide +kernel
theorem dL_pass_1 : decode cL_pass 1 = .ok (.iload_n 1, 1) := by decide +kernel
theorem dL_pass_2 : decode cL_pass 2 = .ok (.invokevirtual 107, 3) := by decide +kernel
theorem dL_pass_5 : decode cL_pass 5 = .ok (.ireturn, 1) := by decide +kernel
theorem dL_pass_6 : decode cL_pass 6 = .ok (.astore_n 2, 1) := by decide +kernel
theorem dL_pass_7 : decode cL_pass 7 = .ok (.ldc 24, 2) := by decide +kernel
theorem dL_pass_9 : decode cL_pass 9 = .ok (.ireturn, 1) := by decide +kernel
theorem dL_pass_10 : decode cL_pass 10 = .ok (.astore_n 2, 1) := by decide +kernel
theorem dL_pass_11 : decode cL_pass 11 = .ok (.ldc 63, 2) := by decide +kernel
theorem dL_pass_13 : decode cL_pass 13 = .ok (.ireturn, 1) := by decide +kernel
theorem dL_isShut_0 : decode cL_isShut 0 = .ok (.aload_n 0, 1) := by decide +kernel
theorem dL_isShut_1 : decode cL_isShut 1 = .ok (.iload_n 1, 1) := by decide +kernel
theorem dL_isShut_2 : decode cL_isShut 2 = .ok (.invokevirtual 112, 3) := by decide +kernel
theorem dL_isShut_5 : decode cL_isShut 5 = .ok (.ifCond .eq 7, 3) := by decide +kernel
theorem dL_isShut_8 : decode cL_isShut 8 = .ok (.iconst 1, 1) := by decide +kernel
theorem dL_isShut_9 : decode cL_isShut 9 = .ok (.goto 4, 3) := by decide +kernel
theorem dL_isShut_12 : decode cL_isShut 12 = .ok (.iconst 0, 1) := by decide +kernel
theorem dL_isShut_13 : decode cL_isShut 13 = .ok (.ireturn, 1) := by decide +kernel
theorem dL_isShut_14 : decode cL_isShut 14 = .ok (.astore_n 2, 1) := by decide +kernel
theorem dL_isShut_15 : decode cL_isShut 15 = .ok (.ldc 21, 2) := by decide +kernel
theorem dL_isShut_17 : decode cL_isShut 17 = .ok (.ireturn, 1) := by decide +kernel
set_option maxHeartbeats 1000000 in
set_option maxRecDepth 100000 in
theorem c_L_water (l : Launch) (g : Gm) (hst : l.stackTraces = false) (q : Fx) (u : SOB) (σ : Sg) (p0 : Int32) (h0 : rgOK p0 0 15) : HXi (S := Unit) l g yL_water cL_water 3 .int [(0, 5, 6, 19)] ({ frames := 8, cells := 1, slots := 6, locals := 124 } : Room) [.ref q.1, .int p0] (OB g q u σ) (fun r _ => r = gi σ 10 p0) (fun _ => OB g q u σ) (fun _ => (0, 0)) := by
  intro sz tt
  refine ofH RL rfl (by decide +kernel) (Nat.le_of_ble_eq_true rfl) (fun p e s m args below meth c hargs S hml hr hlk htab hsz htt hK hA hZ E ls hl => ?_)
  have hx := S.1
  have hb := S.2.1
  have hl : lv_has ls 3 [(0, .ref q.1), (1, .int p0)] := hl
  refine lv_aload_n hx hb dL_water_0 rfl (lv_at hl 0 rfl) ?_
  refine lv_iload_n hx hb dL_water_1 rfl (lv_at hl 1 rfl) ?_
  have E := Ev.obX E
  refine y_reti (yrunV (As := [.int p0]) (rest := []) (q0 := 0) (n := 1) S hml hK (hZ.at E) (Cut.app E hA) (c_G_water l g hst q u.1 σ p0 _ _) (gi_wsV ml_L_67 im_X6_water sl_X6_water in_X6 co_X6_water) ⟨rfl, by decide +kernel, by decide +kernel, by decide +kernel⟩ ⟨Nat.le_of_ble_eq_true rfl, Nat.le_of_ble_eq_true rfl⟩ rfl rfl rfl hl.1 rfl (Nat.le_of_ble_eq_true rfl) dL_water_2 ⟨Nat.le_of_ble_eq_true rfl, Nat.le_of_ble_eq_true rfl⟩) (Cut.app E hA) E (fun En ce q9 H locs hp E hce hcv hcl => ?_) (fun r1 u1 H locs hp E => ?_)
  · exact absurd h0 hp.2
  · obtain ⟨rfl, -⟩ := hp
    exact vx_ret (x_iret () S hr hlk hsz htt hK (Ev.xOb E) dL_water_5 rfl rfl ⟨Nat.le_of_ble_eq_true rfl, Nat.le_of_ble_eq_true rfl⟩ ⟨Nat.le_of_ble_eq_true rfl, Nat.le_of_ble_eq_true rfl⟩)
set_option maxHeartbeats 1000000 in
set_option maxRecDepth 100000 in
theorem c_L_salt (l : Launch) (g : Gm) (hst : l.stackTraces = false) (q : Fx) (u : SOB) (σ : Sg) (p0 : Int32) (h0 : rgOK p0 0 15) : HXi (S := Unit) l g yL_salt cL_salt 3 .int [(0, 5, 6, 19)] ({ frames := 8, cells := 1, slots := 6, locals := 124 } : Room) [.ref q.1, .int p0] (OB g q u σ) (fun r _ => r = gi σ 11 p0) (fun _ => OB g q u σ) (fun _ => (0, 0)) := by
  intro sz tt
  refine ofH RL rfl (by decide +kernel) (Nat.le_of_ble_eq_true rfl) (fun p e s m args below meth c hargs S hml hr hlk htab hsz htt hK hA hZ E ls hl => ?_)
  have hx := S.1
  have hb := S.2.1
  have hl : lv_has ls 3 [(0, .ref q.1), (1, .int p0)] := hl
  refine lv_aload_n hx hb dL_salt_0 rfl (lv_at hl 0 rfl) ?_
  refine lv_iload_n hx hb dL_salt_1 rfl (lv_at hl 1 rfl) ?_
  have E := Ev.obX E
  refine y_reti (yrunV (As := [.int p0]) (rest := []) (q0 := 0) (n := 1) S hml hK (hZ.at E) (Cut.app E hA) (c_G_salt l g hst q u.1 σ p0 _ _) (gi_wsV ml_L_70 im_X6_salt sl_X6_salt in_X6 co_X6_salt) ⟨rfl, by decide +kernel, by decide +kernel, by decide +kernel⟩ ⟨Nat.le_of_ble_eq_true rfl, Nat.le_of_ble_eq_true rfl⟩ rfl rfl rfl hl.1 rfl (Nat.le_of_ble_eq_true rfl) dL_salt_2 ⟨Nat.le_of_ble_eq_true rfl, Nat.le_of_ble_eq_true rfl⟩) (Cut.app E hA) E (fun En ce q9 H locs hp E hce hcv hcl => ?_) (fun r1 u1 H locs hp E => ?_)
  · exact absurd h0 hp.2
  · obtain ⟨rfl, -⟩ := hp
    exact vx_ret (x_iret () S hr hlk hsz htt hK (Ev.xOb E) dL_salt_5 rfl rfl ⟨Nat.le_of_ble_eq_true rfl, Nat.le_of_ble_eq_true rfl⟩ ⟨Nat.le_of_ble_eq_true rfl, Nat.le_of_ble_eq_true rfl⟩)
set_option maxHeartbeats 1000000 in
set_option maxRecDepth 100000 in
theorem c_L_level (l : Launch) (g : Gm) (hst : l.stackTraces = false) (q : Fx) (u : SOB) (σ : Sg) (p0 : Int32) (h0 : rgOK p0 0 15) : HXi (S := Unit) l g yL_level cL_level 3 .int [(0, 5, 6, 19)] ({ frames := 8, cells := 1, slots := 6, locals := 124 } : Room) [.ref q.1, .int p0] (OB g q u σ) (fun r _ => r = f_X2_height σ p0) (fun _ => OB g q u σ) (fun _ => (0, 0)) := by
  intro sz tt
  refine ofH RL rfl (by decide +kernel) (Nat.le_of_ble_eq_true rfl) (fun p e s m args below meth c hargs S hml hr hlk htab hsz htt hK hA hZ E ls hl => ?_)
  have hx := S.1
  have hb := S.2.1
  have hl : lv_has ls 3 [(0, .ref q.1), (1, .int p0)] := hl
  refine lv_aload_n hx hb dL_level_0 rfl (lv_at hl 0 rfl) ?_
  refine lv_iload_n hx hb dL_level_1 rfl (lv_at hl 1 rfl) ?_
  have E := Ev.obX E
  refine y_reti (yrunV (As := [.int p0]) (rest := []) (q0 := 0) (n := 1) S hml hK (hZ.at E) (Cut.app E hA) (c_G_level l g hst q u.1 σ p0 _ _) (gi_wsV ml_L_64 im_X6_level sl_X6_level in_X6 co_X6_level) ⟨rfl, by decide +kernel, by decide +kernel, by decide +kernel⟩ ⟨Nat.le_of_ble_eq_true rfl, Nat.le_of_ble_eq_true rfl⟩ rfl rfl rfl hl.1 rfl (Nat.le_of_ble_eq_true rfl) dL_level_2 ⟨Nat.le_of_ble_eq_true rfl, Nat.le_of_ble_eq_true rfl⟩) (Cut.app E hA) E (fun En ce q9 H locs hp E hce hcv hcl => ?_) (fun r1 u1 H locs hp E => ?_)
  · exact absurd h0 hp.2
  · obtain ⟨rfl, -⟩ := hp
    exact vx_ret (x_iret () S hr hlk hsz htt hK (Ev.xOb E) dL_level_5 rfl rfl ⟨Nat.le_of_ble_eq_true rfl, Nat.le_of_ble_eq_true rfl⟩ ⟨Nat.le_of_ble_eq_true rfl, Nat.le_of_ble_eq_true rfl⟩)
set_option maxHeartbeats 1000000 in
set_option maxRecDepth 100000 in
theorem c_L_amount (l : Launch) (g : Gm) (hst : l.stackTraces = false) (q : Fx) (u : SOB) (σ : Sg) (p0 : Int32) (hW : WF σ) (h0 : ixOK p0 (gs σ 4)) : HXi (S := Unit) l g yL_amount cL_amount 3 .int [(0, 5, 6, 19)] ({ frames := 9, cells := 1, slots := 6, locals := 145 } : Room) [.ref q.1, .int p0] (OB g q u σ) (fun r _ => r = gi σ 20 p0) (fun _ => OB g q u σ) (fun _ => (0, 0)) := by
  intro sz tt
  refine ofH RL rfl (by decide +kernel) (Nat.le_of_ble_eq_true rfl) (fun p e s m args below meth c hargs S hml hr hlk htab hsz htt hK hA hZ E ls hl => ?_)
  have hx := S.1
  have hb := S.2.1
  have hl : lv_has ls 3 [(0, .ref q.1), (1, .int p0)] := hl
  refine lv_aload_n hx hb dL_amount_0 rfl (lv_at hl 0 rfl) ?_
  refine lv_iload_n hx hb dL_amount_1 rfl (lv_at hl 1 rfl) ?_
  have E := Ev.obX E
  refine y_reti (yrunV (As := [.int p0]) (rest := []) (q0 := 0) (n := 1) S hml hK (hZ.at E) (Cut.app E hA) (c_G_amount l g hst q u.1 σ p0 hW _ _) (gi_wsV ml_L_73 im_X6_amount sl_X6_amount in_X6 co_X6_amount) ⟨rfl, by decide +kernel, by decide +kernel, by decide +kernel⟩ ⟨Nat.le_of_ble_eq_true rfl, Nat.le_of_ble_eq_true rfl⟩ rfl rfl rfl hl.1 rfl (Nat.le_of_ble_eq_true rfl) dL_amount_2 ⟨Nat.le_of_ble_eq_true rfl, Nat.le_of_ble_eq_true rfl⟩) (Cut.app E hA) E (fun En ce q9 H locs hp E hce hcv hcl => ?_) (fun r1 u1 H locs hp E => ?_)
  · exact absurd h0 hp.2
  · obtain ⟨rfl, -⟩ := hp
    exact vx_ret (x_iret () S hr hlk hsz htt hK (Ev.xOb E) dL_amount_5 rfl rfl ⟨Nat.le_of_ble_eq_true rfl, Nat.le_of_ble_eq_true rfl⟩ ⟨Nat.le_of_ble_eq_true rfl, Nat.le_of_ble_eq_true rfl⟩)
set_option maxHeartbeats 1000000 in
set_option maxRecDepth 100000 in
theorem c_L_yearly (l : Launch) (g : Gm) (hst : l.stackTraces = false) (q : Fx) (u : SOB) (σ : Sg) (p0 : Int32) (hW : WF σ) (h0 : ixOK p0 (gs σ 4)) : HXi (S := Unit) l g yL_yearly cL_yearly 3 .int [(0, 5, 6, 19)] ({ frames := 9, cells := 1, slots := 6, locals := 145 } : Room) [.ref q.1, .int p0] (OB g q u σ) (fun r _ => r = gi σ 22 p0) (fun _ => OB g q u σ) (fun _ => (0, 0)) := by
  intro sz tt
  refine ofH RL rfl (by decide +kernel) (Nat.le_of_ble_eq_true rfl) (fun p e s m args below meth c hargs S hml hr hlk htab hsz htt hK hA hZ E ls hl => ?_)
  have hx := S.1
  have hb := S.2.1
  have hl : lv_has ls 3 [(0, .ref q.1), (1, .int p0)] := hl
  refine lv_aload_n hx hb dL_yearly_0 rfl (lv_at hl 0 rfl) ?_
  refine lv_iload_n hx hb dL_yearly_1 rfl (lv_at hl 1 rfl) ?_
  have E := Ev.obX E
  refine y_reti (yrunV (As := [.int p0]) (rest := []) (q0 := 0) (n := 1) S hml hK (hZ.at E) (Cut.app E hA) (c_G_yearly l g hst q u.1 σ p0 hW _ _) (gi_wsV ml_L_76 im_X6_yearly sl_X6_yearly in_X6 co_X6_yearly) ⟨rfl, by decide +kernel, by decide +kernel, by decide +kernel⟩ ⟨Nat.le_of_ble_eq_true rfl, Nat.le_of_ble_eq_true rfl⟩ rfl rfl rfl hl.1 rfl (Nat.le_of_ble_eq_true rfl) dL_yearly_2 ⟨Nat.le_of_ble_eq_true rfl, Nat.le_of_ble_eq_true rfl⟩) (Cut.app E hA) E (fun En ce q9 H locs hp E hce hcv hcl => ?_) (fun r1 u1 H locs hp E => ?_)
  · exact absurd h0 hp.2
  · obtain ⟨rfl, -⟩ := hp
    exact vx_ret (x_iret () S hr hlk hsz htt hK (Ev.xOb E) dL_yearly_5 rfl rfl ⟨Nat.le_of_ble_eq_true rfl, Nat.le_of_ble_eq_true rfl⟩ ⟨Nat.le_of_ble_eq_true rfl, Nat.le_of_ble_eq_true rfl⟩)
set_option maxHeartbeats 1000000 in
set_option maxRecDepth 100000 in
theorem c_L_pumped (l : Launch) (g : Gm) (hst : l.stackTraces = false) (q : Fx) (u : SOB) (σ : Sg) (p0 : Int32) (hW : WF σ) (h0 : ixOK p0 (gs σ 4)) : HXl (S := Unit) l g yL_pumped cL_pumped 3 [(0, 5, 6, 19)] ({ frames := 9, cells := 1, slots := 6, locals := 145 } : Room) [.ref q.1, .int p0] (OB g q u σ) (fun r _ => r = gl σ 23 p0) (fun _ => OB g q u σ) (fun _ => (0, 0)) := by
  intro sz tt
  refine ofH RL rfl (by decide +kernel) (Nat.le_of_ble_eq_true rfl) (fun p e s m args below meth c hargs S hml hr hlk htab hsz htt hK hA hZ E ls hl => ?_)
  have hx := S.1
  have hb := S.2.1
  have hl : lv_has ls 3 [(0, .ref q.1), (1, .int p0)] := hl
  refine lv_aload_n hx hb dL_pumped_0 rfl (lv_at hl 0 rfl) ?_
  refine lv_iload_n hx hb dL_pumped_1 rfl (lv_at hl 1 rfl) ?_
  have E := Ev.obX E
  refine y_retl (yrunV (As := [.int p0]) (rest := []) (q0 := 0) (n := 1) S hml hK (hZ.at E) (Cut.app E hA) (c_G_pumped l g hst q u.1 σ p0 hW _ _) (gi_wsV ml_L_79 im_X6_pumped sl_X6_pumped in_X6 co_X6_pumped) ⟨rfl, by decide +kernel, by decide +kernel, by decide +kernel⟩ ⟨Nat.le_of_ble_eq_true rfl, Nat.le_of_ble_eq_true rfl⟩ rfl rfl rfl hl.1 rfl (Nat.le_of_ble_eq_true rfl) dL_pumped_2 ⟨Nat.le_of_ble_eq_true rfl, Nat.le_of_ble_eq_true rfl⟩) (Cut.app E hA) E (fun En ce q9 H locs hp E hce hcv hcl => ?_) (fun r1 u1 H locs hp E => ?_)
  · exact absurd h0 hp.2
  · obtain ⟨rfl, -⟩ := hp
    exact vx_ret (x_lret () S hr hlk hsz htt hK (Ev.xOb E) dL_pumped_5 rfl rfl ⟨Nat.le_of_ble_eq_true rfl, Nat.le_of_ble_eq_true rfl⟩ ⟨Nat.le_of_ble_eq_true rfl, Nat.le_of_ble_eq_true rfl⟩)
set_option maxHeartbeats 1000000 in
set_option maxRecDepth 100000 in
theorem c_L_byAge (l : Launch) (g : Gm) (hst : l.stackTraces = false) (q : Fx) (u : SOB) (σ : Sg) (p0 : Int32) (hW : WF σ) (h0 : ixOK p0 (gs σ 4)) : HXi (S := Unit) l g yL_byAge cL_byAge 3 .int [(0, 5, 6, 88)] ({ frames := 7, cells := 1, slots := 6, locals := 103 } : Room) [.ref q.1, .int p0] (OB g q u σ) (fun r _ => r = gi σ 27 p0) (fun _ => OB g q u σ) (fun _ => (0, 0)) := by
  intro sz tt
  refine ofH RL rfl (by decide +kernel) (Nat.le_of_ble_eq_true rfl) (fun p e s m args below meth c hargs S hml hr hlk htab hsz htt hK hA hZ E ls hl => ?_)
  have hx := S.1
  have hb := S.2.1
  have hl : lv_has ls 3 [(0, .ref q.1), (1, .int p0)] := hl
  refine lv_aload_n hx hb dL_byAge_0 rfl (lv_at hl 0 rfl) ?_
  refine lv_iload_n hx hb dL_byAge_1 rfl (lv_at hl 1 rfl) ?_
  have E := Ev.obX E
  refine y_reti (yrunV (As := [.int p0]) (rest := []) (q0 := 0) (n := 1) S hml hK (hZ.at E) (Cut.app E hA) (c_G_byAge l g hst q.1 (q.2.2.2.2.1 0) q.2.1 q.2.2.1 q.2.2.2.1 u.1 σ p0 hW _ _) (gi_wsV ml_L_85 im_X6_byAge sl_X6_byAge in_X6 co_X6_byAge) ⟨rfl, by decide +kernel, by decide +kernel, by decide +kernel⟩ ⟨Nat.le_of_ble_eq_true rfl, Nat.le_of_ble_eq_true rfl⟩ rfl rfl rfl hl.1 rfl (Nat.le_of_ble_eq_true rfl) dL_byAge_2 ⟨Nat.le_of_ble_eq_true rfl, Nat.le_of_ble_eq_true rfl⟩) (Cut.app E hA) E (fun En ce q9 H locs hp E hce hcv hcl => ?_) (fun r1 u1 H locs hp E => ?_)
  · exact absurd h0 hp.2
  · obtain ⟨rfl, -⟩ := hp
    exact vx_ret (x_iret () S hr hlk hsz htt hK (Ev.xOb E) dL_byAge_5 rfl rfl ⟨Nat.le_of_ble_eq_true rfl, Nat.le_of_ble_eq_true rfl⟩ ⟨Nat.le_of_ble_eq_true rfl, Nat.le_of_ble_eq_true rfl⟩)
set_option maxHeartbeats 1000000 in
set_option maxRecDepth 100000 in
theorem c_L_account (l : Launch) (g : Gm) (hst : l.stackTraces = false) (q : Fx) (u : SOB) (σ : Sg) (p0 : Int32) (h0 : p0 ∈ bytN) : HXl (S := Unit) l g yL_account cL_account 3 [(0, 5, 6, 22)] ({ frames := 7, cells := 1, slots := 6, locals := 113 } : Room) [.ref q.1, .int p0] (OB g q u σ) (fun r _ => r = acc σ p0) (fun _ => OB g q u σ) (fun _ => (0, 0)) := by
  intro sz tt
  refine ofH RL rfl (by decide +kernel) (Nat.le_of_ble_eq_true rfl) (fun p e s m args below meth c hargs S hml hr hlk htab hsz htt hK hA hZ E ls hl => ?_)
  have hx := S.1
  have hb := S.2.1
  have hl : lv_has ls 3 [(0, .ref q.1), (1, .int p0)] := hl
  refine lv_aload_n hx hb dL_account_0 rfl (lv_at hl 0 rfl) ?_
  refine lv_iload_n hx hb dL_account_1 rfl (lv_at hl 1 rfl) ?_
  have E := Ev.obX E
  refine y_retl (yrunV (As := [.int p0]) (rest := []) (q0 := 0) (n := 1) S hml hK (hZ.at E) (Cut.app E hA) (c_G_account l g hst q.1 (q.2.2.2.2.1 0) q.2.1 q.2.2.1 q.2.2.2.1 u.1 σ p0 _ _) (gi_wsV ml_L_101 im_X6_account sl_X6_account in_X6 co_X6_account) ⟨rfl, by decide +kernel, by decide +kernel, by decide +kernel⟩ ⟨Nat.le_of_ble_eq_true rfl, Nat.le_of_ble_eq_true rfl⟩ rfl rfl rfl hl.1 rfl (Nat.le_of_ble_eq_true rfl) dL_account_2 ⟨Nat.le_of_ble_eq_true rfl, Nat.le_of_ble_eq_true rfl⟩) (Cut.app E hA) E (fun En ce q9 H locs hp E hce hcv hcl => ?_) (fun r1 u1 H locs hp E => ?_)
  · exact absurd h0 hp.2
  · obtain ⟨rfl, -⟩ := hp
    exact vx_ret (x_lret () S hr hlk hsz htt hK (Ev.xOb E) dL_account_5 rfl rfl ⟨Nat.le_of_ble_eq_true rfl, Nat.le_of_ble_eq_true rfl⟩ ⟨Nat.le_of_ble_eq_true rfl, Nat.le_of_ble_eq_true rfl⟩)
set_option maxHeartbeats 1000000 in
set_option maxRecDepth 100000 in
theorem c_L_eventAt (l : Launch) (g : Gm) (hst : l.stackTraces = false) (q : Fx) (u : SOB) (σ : Sg) (i : Nat) (hi : i < en σ) (hE : EvOK σ) (hn : en σ ≤ 20000) : HXi (S := Unit) l g yL_eventAt cL_eventAt 3 .int [(0, 5, 6, 19)] ({ frames := 10, cells := 10, slots := 100, locals := 171 } : Room) [.ref q.1, .int (nI i)] (OB g q u σ) (fun r _ => r = chr (evt 1 σ i)) (fun _ => OB g q u σ) (fun _ => (0, 0)) := by
  intro sz tt
  refine ofH RL rfl (by decide +kernel) (Nat.le_of_ble_eq_true rfl) (fun p e s m args below meth c hargs S hml hr hlk htab hsz htt hK hA hZ E ls hl => ?_)
  have hx := S.1
  have hb := S.2.1
  have hl : lv_has ls 3 [(0, .ref q.1), (1, .int (nI i))] := hl
  refine lv_aload_n hx hb dL_eventAt_0 rfl (lv_at hl 0 rfl) ?_
  refine lv_iload_n hx hb dL_eventAt_1 rfl (lv_at hl 1 rfl) ?_
  have E := Ev.obX E
  refine y_reti (yrunV (As := [.int (nI i)]) (rest := []) (q0 := 0) (n := 1) S hml hK (hZ.at E) (Cut.app E hA) (c_G_eventAt l g hst q u.1 σ i hi hE hn _ _) (gi_wsV ml_L_97 im_X6_eventAt sl_X6_eventAt in_X6 co_X6_eventAt) ⟨rfl, by decide +kernel, by decide +kernel, by decide +kernel⟩ ⟨Nat.le_of_ble_eq_true rfl, Nat.le_of_ble_eq_true rfl⟩ rfl rfl rfl hl.1 rfl (Nat.le_of_ble_eq_true rfl) dL_eventAt_2 ⟨Nat.le_of_ble_eq_true rfl, Nat.le_of_ble_eq_true rfl⟩) (Cut.app E hA) E (fun En ce q9 H locs hp E hce hcv hcl => ?_) (fun r1 u1 H locs hp E => ?_)
  · exact False.elim hp
  · obtain rfl := hp
    exact vx_ret (x_iret () S hr hlk hsz htt hK (Ev.xOb E) dL_eventAt_5 rfl rfl ⟨Nat.le_of_ble_eq_true rfl, Nat.le_of_ble_eq_true rfl⟩ ⟨Nat.le_of_ble_eq_true rfl, Nat.le_of_ble_eq_true rfl⟩)
set_option maxHeartbeats 1000000 in
set_option maxRecDepth 100000 in
theorem c_L_isShut (l : Launch) (g : Gm) (hst : l.stackTraces = false) (q : Fx) (u : SOB) (σ : Sg) (p0 : Int32) (hW : WF σ) (h0 : ixOK p0 (gs σ 4)) (h1 : gi σ 24 p0 = 0) : HXi (S := Unit) l g yL_isShut cL_isShut 3 .int [(0, 13, 14, 19)] ({ frames := 9, cells := 1, slots := 6, locals := 145 } : Room) [.ref q.1, .int p0] (OB g q u σ) (fun r _ => r = 0) (fun _ => OB g q u σ) (fun _ => (0, 0)) := by
  intro sz tt
  refine ofH RL rfl (by decide +kernel) (Nat.le_of_ble_eq_true rfl) (fun p e s m args below meth c hargs S hml hr hlk htab hsz htt hK hA hZ E ls hl => ?_)
  have hx := S.1
  have hb := S.2.1
  have hl : lv_has ls 3 [(0, .ref q.1), (1, .int p0)] := hl
  refine lv_aload_n hx hb dL_isShut_0 rfl (lv_at hl 0 rfl) ?_
  refine lv_iload_n hx hb dL_isShut_1 rfl (lv_at hl 1 rfl) ?_
  have E := Ev.obX E
  refine y_reti (yrunV (As := [.int p0]) (rest := []) (q0 := 0) (n := 1) S hml hK (hZ.at E) (Cut.app E hA) (c_G_isShut l g hst q u.1 σ p0 hW h1 _ _) (gi_wsV ml_L_112 im_X6_isShut sl_X6_isShut in_X6 co_X6_isShut) ⟨rfl, by decide +kernel, by decide +kernel, by decide +kernel⟩ ⟨Nat.le_of_ble_eq_true rfl, Nat.le_of_ble_eq_true rfl⟩ rfl rfl rfl hl.1 rfl (Nat.le_of_ble_eq_true rfl) dL_isShut_2 ⟨Nat.le_of_ble_eq_true rfl, Nat.le_of_ble_eq_true rfl⟩) (Cut.app E hA) E (fun En ce q9 H locs hp E hce hcv hcl => ?_) (fun r1 u1 H locs hp E => ?_)
  · exact absurd h0 hp.2
  · obtain ⟨rfl, -⟩ := hp
    rw [h1]
    refine lv_if_eq (tgt := 12) hx hb dL_isShut_5 (by decide) (fun _ => ?_) (fun c_ => absurd rfl c_)
    refine lv_iconst (v := 0) hx hb dL_isShut_12 (by decide) ?_
    exact vx_ret (x_iret () S hr hlk hsz htt hK (Ev.xOb E) dL_isShut_13 rfl rfl ⟨Nat.le_of_ble_eq_true rfl, Nat.le_of_ble_eq_true rfl⟩ ⟨Nat.le_of_ble_eq_true rfl, Nat.le_of_ble_eq_true rfl⟩)
set_option maxHeartbeats 1000000 in
set_option maxRecDepth 100000 in
theorem c_L_waterN (l : Launch) (g : Gm) (hst : l.stackTraces = false) (q : Fx) (u : SOB) (σ : Sg) (p0 : Int32) (hN : ¬ rgOK p0 0 15) : HXi (S := Unit) l g yL_water cL_water 3 .int [(0, 5, 6, 19)] ({ frames := 8, cells := 1, slots := 6, locals := 124 } : Room) [.ref q.1, .int p0] (OB g q u σ) (fun r _ => r = (-2500000)) (fun _ => OB g q u σ) (fun _ => (1, 6)) := by
  intro sz tt
  refine ofH RL rfl (by decide +kernel) (Nat.le_of_ble_eq_true rfl) (fun p e s m args below meth c hargs S hml hr hlk htab hsz htt hK hA hZ E ls hl => ?_)
  have hx := S.1
  have hb := S.2.1
  have hl : lv_has ls 3 [(0, .ref q.1), (1, .int p0)] := hl
  refine lv_aload_n hx hb dL_water_0 rfl (lv_at hl 0 rfl) ?_
  refine lv_iload_n hx hb dL_water_1 rfl (lv_at hl 1 rfl) ?_
  have E := Ev.obX E
  refine y_reti (yrunV (As := [.int p0]) (rest := []) (q0 := 0) (n := 1) S hml hK (hZ.at E) (Cut.app E hA) (c_G_water l g hst q u.1 σ p0 _ _) (gi_wsV ml_L_67 im_X6_water sl_X6_water in_X6 co_X6_water) ⟨rfl, by decide +kernel, by decide +kernel, by decide +kernel⟩ ⟨Nat.le_of_ble_eq_true rfl, Nat.le_of_ble_eq_true rfl⟩ rfl rfl rfl hl.1 rfl (Nat.le_of_ble_eq_true rfl) dL_water_2 ⟨Nat.le_of_ble_eq_true rfl, Nat.le_of_ble_eq_true rfl⟩) (Cut.app E hA) E (fun En ce q9 H locs hp E hce hcv hcl => ?_) (fun r1 u1 H locs hp E => ?_)
  · have hEn : En = "java/lang/IndexOutOfBoundsException" := by
      exact hp.1
    subst hEn
    refine vx_catch (own := RL) (name := "java/lang/IndexOutOfBoundsException") S.2.2.2 [] ⟨0, 5, 6, 19⟩ [] htab (fun z hz => by cases hz) (by decide) (by decide) (S.2.2.1 _ cl_L_19) (va_Nw.use rfl (hZ.2.2.2.2.2.2.1 _ nw_ioob rfl)) hce hcv hcl ?_
    refine lv_astore_n (lv' := (2, .ref q9) :: [(0, .ref q.1), (1, .int p0)]) hx hb dL_water_6 rfl hl (by decide) rfl (fun ls hl => ?_)
    refine lv_ldc (v := (-2500000)) hx hb S.2.2.2 (S.2.2.1 _ cn_L_21) dL_water_7 ?_
    exact vx_ret (x_iret () S hr hlk hsz htt hK (Ev.xOb E) dL_water_9 rfl rfl ⟨Nat.le_of_ble_eq_true rfl, Nat.le_of_ble_eq_true rfl⟩ ⟨Nat.le_of_ble_eq_true rfl, Nat.le_of_ble_eq_true rfl⟩)
  · exact absurd hp.2 hN
set_option maxHeartbeats 1000000 in
set_option maxRecDepth 100000 in
theorem c_L_byAgeN (l : Launch) (g : Gm) (hst : l.stackTraces = false) (q : Fx) (u : SOB) (σ : Sg) (p0 : Int32) (hW : WF σ) (hN : ¬ ixOK p0 (gs σ 4)) : HXi (S := Unit) l g yL_byAge cL_byAge 3 .int [(0, 5, 6, 88)] ({ frames := 7, cells := 1, slots := 6, locals := 103 } : Room) [.ref q.1, .int p0] (OB g q u σ) (fun r _ => r = (-3000000)) (fun _ => OB g q u σ) (fun _ => (1, 6)) := by
  intro sz tt
  refine ofH RL rfl (by decide +kernel) (Nat.le_of_ble_eq_true rfl) (fun p e s m args below meth c hargs S hml hr hlk htab hsz htt hK hA hZ E ls hl => ?_)
  have hx := S.1
  have hb := S.2.1
  have hl : lv_has ls 3 [(0, .ref q.1), (1, .int p0)] := hl
  refine lv_aload_n hx hb dL_byAge_0 rfl (lv_at hl 0 rfl) ?_
  refine lv_iload_n hx hb dL_byAge_1 rfl (lv_at hl 1 rfl) ?_
  have E := Ev.obX E
  refine y_reti (yrunV (As := [.int p0]) (rest := []) (q0 := 0) (n := 1) S hml hK (hZ.at E) (Cut.app E hA) (c_G_byAge l g hst q.1 (q.2.2.2.2.1 0) q.2.1 q.2.2.1 q.2.2.2.1 u.1 σ p0 hW _ _) (gi_wsV ml_L_85 im_X6_byAge sl_X6_byAge in_X6 co_X6_byAge) ⟨rfl, by decide +kernel, by decide +kernel, by decide +kernel⟩ ⟨Nat.le_of_ble_eq_true rfl, Nat.le_of_ble_eq_true rfl⟩ rfl rfl rfl hl.1 rfl (Nat.le_of_ble_eq_true rfl) dL_byAge_2 ⟨Nat.le_of_ble_eq_true rfl, Nat.le_of_ble_eq_true rfl⟩) (Cut.app E hA) E (fun En ce q9 H locs hp E hce hcv hcl => ?_) (fun r1 u1 H locs hp E => ?_)
  · have hEn : En = "java/util/NoSuchElementException" := by
      exact hp.1
    subst hEn
    refine vx_catch (own := RL) (name := "java/util/NoSuchElementException") S.2.2.2 [] ⟨0, 5, 6, 88⟩ [] htab (fun z hz => by cases hz) (by decide) (by decide) (S.2.2.1 _ cl_L_88) (va_Nw.use rfl (hZ.2.2.2.2.2.2.1 _ nw_nse rfl)) hce hcv hcl ?_
    refine lv_astore_n (lv' := (2, .ref q9) :: [(0, .ref q.1), (1, .int p0)]) hx hb dL_byAge_6 rfl hl (by decide) rfl (fun ls hl => ?_)
    refine lv_ldc (v := (-3000000)) hx hb S.2.2.2 (S.2.2.1 _ cn_L_90) dL_byAge_7 ?_
    exact vx_ret (x_iret () S hr hlk hsz htt hK (Ev.xOb E) dL_byAge_9 rfl rfl ⟨Nat.le_of_ble_eq_true rfl, Nat.le_of_ble_eq_true rfl⟩ ⟨Nat.le_of_ble_eq_true rfl, Nat.le_of_ble_eq_true rfl⟩)
  · exact absurd hp.2 hN
set_option maxHeartbeats 1000000 in
set_option maxRecDepth 100000 in
theorem c_L_addWellN (l : Launch) (g : Gm) (hst : l.stackTraces = false) (q : Fx) (u : SOB) (σ : Sg) (p0 : Int32) (p1 : Int32) (p2 : Int32) (hN : ¬ gs σ 4 < 6) (h0 : rgOK p0 0 15) (h1 : rgOK p1 0 9999) (h2 : rgOK p2 0 999) : HXi (S := Unit) l g yL_addWell cL_addWell 5 .int [(0, 7, 8, 19), (0, 7, 13, 22), (0, 7, 18, 52)] ({ frames := 8, cells := 1, slots := 6, locals := 128 } : Room) [.ref q.1, .int p0, .int p1, .int p2] (OB g q u σ) (fun r _ => r = (-1000000)) (fun _ => OB g q u σ) (fun _ => (1, 6)) := by
  intro sz tt
  refine ofH RL rfl (by decide +kernel) (Nat.le_of_ble_eq_true rfl) (fun p e s m args below meth c hargs S hml hr hlk htab hsz htt hK hA hZ E ls hl => ?_)
  have hx := S.1
  have hb := S.2.1
  have hl : lv_has ls 5 [(0, .ref q.1), (1, .int p0), (2, .int p1), (3, .int p2)] := hl
  refine lv_aload_n hx hb dL_addWell_0 rfl (lv_at hl 0 rfl) ?_
  refine lv_iload_n hx hb dL_addWell_1 rfl (lv_at hl 1 rfl) ?_
  refine lv_iload_n hx hb dL_addWell_2 rfl (lv_at hl 2 rfl) ?_
  refine lv_iload_n hx hb dL_addWell_3 rfl (lv_at hl 3 rfl) ?_
  have E := Ev.obX E
  refine y_reti (yrunV (As := [.int p0, .int p1, .int p2]) (rest := []) (q0 := 0) (n := 3) S hml hK (hZ.at E) (Cut.app E hA) (c_SN_addWell l g hst q u.1 σ p0 p1 p2 hN _ _) (gi_wsV ml_L_49 im_X6_addWell sl_X6_addWell in_X6 co_X6_addWell) ⟨rfl, by decide +kernel, by decide +kernel, by decide +kernel⟩ ⟨Nat.le_of_ble_eq_true rfl, Nat.le_of_ble_eq_true rfl⟩ rfl rfl rfl hl.1 rfl (Nat.le_of_ble_eq_true rfl) dL_addWell_4 ⟨Nat.le_of_ble_eq_true rfl, Nat.le_of_ble_eq_true rfl⟩) (Cut.app E hA) E (fun En ce q9 H locs hp E hce hcv hcl => ?_) (fun r1 u1 H locs hp E => ?_)
  · have hEn : En = "java/lang/IllegalStateException" := by
      rcases hp with ⟨_, z⟩ | ⟨_, _, z⟩ | ⟨e, _⟩
      · exact absurd h0 z
      · exact absurd ⟨h1, h2⟩ z
      · exact e
    subst hEn
    refine vx_catch (own := RL) (name := "java/lang/IllegalStateException") S.2.2.2 [⟨0, 7, 8, 19⟩, ⟨0, 7, 13, 22⟩] ⟨0, 7, 18, 52⟩ [] htab (fun z hz => by simp only [List.mem_cons, List.not_mem_nil, or_false] at hz; rcases hz with rfl | rfl <;> first | exact Or.inr ⟨by decide, _, S.2.2.1 _ cl_L_19, hZ.2.2.2.2.2.2.2.1 ("java/lang/IllegalStateException", "java/lang/IndexOutOfBoundsException") (by decide)⟩ | exact Or.inr ⟨by decide, _, S.2.2.1 _ cl_L_22, hZ.2.2.2.2.2.2.2.1 ("java/lang/IllegalStateException", "java/lang/IllegalArgumentException") (by decide)⟩) (by decide) (by decide) (S.2.2.1 _ cl_L_52) (va_Nw.use rfl (hZ.2.2.2.2.2.2.1 _ nw_ise rfl)) hce hcv hcl ?_
    refine lv_astore (lv' := (4, .ref q9) :: [(0, .ref q.1), (1, .int p0), (2, .int p1), (3, .int p2)]) hx hb dL_addWell_18 hl (by decide) rfl (fun ls hl => ?_)
    refine lv_ldc (v := (-1000000)) hx hb S.2.2.2 (S.2.2.1 _ cn_L_54) dL_addWell_20 ?_
    exact vx_ret (x_iret () S hr hlk hsz htt hK (Ev.xOb E) dL_addWell_22 rfl rfl ⟨Nat.le_of_ble_eq_true rfl, Nat.le_of_ble_eq_true rfl⟩ ⟨Nat.le_of_ble_eq_true rfl, Nat.le_of_ble_eq_true rfl⟩)
  · exact hp.elim
set_option maxHeartbeats 1000000 in
set_option maxRecDepth 100000 in
theorem c_L_transferN (l : Launch) (g : Gm) (hst : l.stackTraces = false) (q : Fx) (u : SOB) (σ : Sg) (p0 : Int32) (p1 : Int32) (p2 : Int32) (hW : WF σ) (hN : f_X4_canGive σ p0 p1 p2 = 0) (h0 : ixOK p0 (gs σ 4)) (h1 : ixOK p1 (gs σ 4)) (h2 : rgOK p2 1 999) : HXi (S := Unit) l g yL_transfer cL_transfer 5 .int [(0, 7, 8, 19), (0, 7, 13, 22), (0, 7, 18, 61)] ({ frames := 9, cells := 1, slots := 6, locals := 147 } : Room) [.ref q.1, .int p0, .int p1, .int p2] (OB g q u σ) (fun r _ => r = (-1500000)) (fun _ => OB g q u σ) (fun _ => (1, 6)) := by
  intro sz tt
  refine ofH RL rfl (by decide +kernel) (Nat.le_of_ble_eq_true rfl) (fun p e s m args below meth c hargs S hml hr hlk htab hsz htt hK hA hZ E ls hl => ?_)
  have hx := S.1
  have hb := S.2.1
  have hl : lv_has ls 5 [(0, .ref q.1), (1, .int p0), (2, .int p1), (3, .int p2)] := hl
  refine lv_aload_n hx hb dL_transfer_0 rfl (lv_at hl 0 rfl) ?_
  refine lv_iload_n hx hb dL_transfer_1 rfl (lv_at hl 1 rfl) ?_
  refine lv_iload_n hx hb dL_transfer_2 rfl (lv_at hl 2 rfl) ?_
  refine lv_iload_n hx hb dL_transfer_3 rfl (lv_at hl 3 rfl) ?_
  have E := Ev.obX E
  refine y_reti (yrunV (As := [.int p0, .int p1, .int p2]) (rest := []) (q0 := 0) (n := 3) S hml hK (hZ.at E) (Cut.app E hA) (c_SN_transfer l g hst q u.1 σ p0 p1 p2 hW hN _ _) (gi_wsV ml_L_58 im_X6_transfer sl_X6_transfer in_X6 co_X6_transfer) ⟨rfl, by decide +kernel, by decide +kernel, by decide +kernel⟩ ⟨Nat.le_of_ble_eq_true rfl, Nat.le_of_ble_eq_true rfl⟩ rfl rfl rfl hl.1 rfl (Nat.le_of_ble_eq_true rfl) dL_transfer_4 ⟨Nat.le_of_ble_eq_true rfl, Nat.le_of_ble_eq_true rfl⟩) (Cut.app E hA) E (fun En ce q9 H locs hp E hce hcv hcl => ?_) (fun r1 u1 H locs hp E => ?_)
  · have hEn : En = "java/lang/UnsupportedOperationException" := by
      rcases hp with ⟨_, z⟩ | ⟨_, _, z⟩ | ⟨e, _⟩
      · exact absurd ⟨h0, h1⟩ z
      · exact absurd h2 z
      · exact e
    subst hEn
    refine vx_catch (own := RL) (name := "java/lang/UnsupportedOperationException") S.2.2.2 [⟨0, 7, 8, 19⟩, ⟨0, 7, 13, 22⟩] ⟨0, 7, 18, 61⟩ [] htab (fun z hz => by simp only [List.mem_cons, List.not_mem_nil, or_false] at hz; rcases hz with rfl | rfl <;> first | exact Or.inr ⟨by decide, _, S.2.2.1 _ cl_L_19, hZ.2.2.2.2.2.2.2.1 ("java/lang/UnsupportedOperationException", "java/lang/IndexOutOfBoundsException") (by decide)⟩ | exact Or.inr ⟨by decide, _, S.2.2.1 _ cl_L_22, hZ.2.2.2.2.2.2.2.1 ("java/lang/UnsupportedOperationException", "java/lang/IllegalArgumentException") (by decide)⟩) (by decide) (by decide) (S.2.2.1 _ cl_L_61) (va_Nw.use rfl (hZ.2.2.2.2.2.2.1 _ nw_uoe rfl)) hce hcv hcl ?_
    refine lv_astore (lv' := (4, .ref q9) :: [(0, .ref q.1), (1, .int p0), (2, .int p1), (3, .int p2)]) hx hb dL_transfer_18 hl (by decide) rfl (fun ls hl => ?_)
    refine lv_ldc (v := (-1500000)) hx hb S.2.2.2 (S.2.2.1 _ cn_L_63) dL_transfer_20 ?_
    exact vx_ret (x_iret () S hr hlk hsz htt hK (Ev.xOb E) dL_transfer_22 rfl rfl ⟨Nat.le_of_ble_eq_true rfl, Nat.le_of_ble_eq_true rfl⟩ ⟨Nat.le_of_ble_eq_true rfl, Nat.le_of_ble_eq_true rfl⟩)
  · exact hp.elim
set_option maxHeartbeats 1000000 in
set_option maxRecDepth 100000 in
theorem c_L_passN (l : Launch) (g : Gm) (hst : l.stackTraces = false) (q : Fx) (u : SOB) (σ : Sg) (mm : Nat) (hN : ¬ gs σ 0 + nI mm ≤ 600) (h0 : rgOK (nI mm) 1 24) : HXi (S := Unit) l g yL_pass cL_pass 3 .int [(0, 5, 6, 22), (0, 5, 10, 110)] ({ frames := 8, cells := 1, slots := 6, locals := 125 } : Room) [.ref q.1, .int (nI mm)] (OB g q u σ) (fun r _ => r = (-1500000)) (fun _ => OB g q u σ) (fun _ => (1, 6)) := by
  intro sz tt
  refine ofH RL rfl (by decide +kernel) (Nat.le_of_ble_eq_true rfl) (fun p e s m args below meth c hargs S hml hr hlk htab hsz htt hK hA hZ E ls hl => ?_)
  have hx := S.1
  have hb := S.2.1
  have hl : lv_has ls 3 [(0, .ref q.1), (1, .int (nI mm))] := hl
  refine lv_aload_n hx hb dL_pass_0 rfl (lv_at hl 0 rfl) ?_
  refine lv_iload_n hx hb dL_pass_1 rfl (lv_at hl 1 rfl) ?_
  have E := Ev.obX E
  refine y_reti (yrunV (As := [.int (nI mm)]) (rest := []) (q0 := 0) (n := 1) S hml hK (hZ.at E) (Cut.app E hA) (c_SN_pass l g hst q u.1 σ mm hN _ _) (gi_wsV ml_L_107 im_X6_pass sl_X6_pass in_X6 co_X6_pass) ⟨rfl, by decide +kernel, by decide +kernel, by decide +kernel⟩ ⟨Nat.le_of_ble_eq_true rfl, Nat.le_of_ble_eq_true rfl⟩ rfl rfl rfl hl.1 rfl (Nat.le_of_ble_eq_true rfl) dL_pass_2 ⟨Nat.le_of_ble_eq_true rfl, Nat.le_of_ble_eq_true rfl⟩) (Cut.app E hA) E (fun En ce q9 H locs hp E hce hcv hcl => ?_) (fun r1 u1 H locs hp E => ?_)
  · have hEn : En = "java/lang/ArithmeticException" := by
      rcases hp with ⟨_, z⟩ | ⟨e, _⟩
      · exact absurd h0 z
      · exact e
    subst hEn
    refine vx_catch (own := RL) (name := "java/lang/ArithmeticException") S.2.2.2 [⟨0, 5, 6, 22⟩] ⟨0, 5, 10, 110⟩ [] htab (fun z hz => by simp only [List.mem_cons, List.not_mem_nil, or_false] at hz; rcases hz with rfl <;> first | exact Or.inr ⟨by decide, _, S.2.2.1 _ cl_L_22, hZ.2.2.2.2.2.2.2.1 ("java/lang/ArithmeticException", "java/lang/IllegalArgumentException") (by decide)⟩) (by decide) (by decide) (S.2.2.1 _ cl_L_110) (va_Nw.use rfl (hZ.2.2.2.2.2.2.1 _ nw_ae rfl)) hce hcv hcl ?_
    refine lv_astore_n (lv' := (2, .ref q9) :: [(0, .ref q.1), (1, .int (nI mm))]) hx hb dL_pass_10 rfl hl (by decide) rfl (fun ls hl => ?_)
    refine lv_ldc (v := (-1500000)) hx hb S.2.2.2 (S.2.2.1 _ cn_L_63) dL_pass_11 ?_
    exact vx_ret (x_iret () S hr hlk hsz htt hK (Ev.xOb E) dL_pass_13 rfl rfl ⟨Nat.le_of_ble_eq_true rfl, Nat.le_of_ble_eq_true rfl⟩ ⟨Nat.le_of_ble_eq_true rfl, Nat.le_of_ble_eq_true rfl⟩)
  · exact hp.elim
set_option maxHeartbeats 1000000 in
set_option maxRecDepth 100000 in
theorem c_L_setCellN (l : Launch) (g : Gm) (hst : l.stackTraces = false) (q : Fx) (u : SOB) (σ : Sg) (p0 : Int32) (p1 : Int32) (p2 : Int32) (p3 : Int32) {C M : Nat} (hu : OkU u) (hne : u.2.2.2.2 ≠ []) (hI : Inv C M σ) (hC : C + 1 ≤ 1000) (h0 : rgOK p0 0 15) (h1 : rgOK p1 (-100) 100) (h2 : rgOK p2 1 50) (h3 : rgOK p3 0 5000) : HXi (S := SOB) l g yL_setCell cL_setCell 6 .int [(0, 9, 10, 19), (0, 9, 15, 22)] ({ frames := 13, cells := 61, slots := 600005, locals := 1176 } : Room) [.ref q.1, .int p0, .int p1, .int p2, .int p3] (OB g q u σ) (fun r u' => r = gi σ 10 p0 ∧ Nx u (0, p0, p1, p2, p3) u') (fun u' => OB g q u' (fo1 (-1) (0, p0, p1, p2, p3) σ)) (kxS σ (fo1 (-1) (0, p0, p1, p2, p3) σ)) := by
  have hI2 : Inv (C + 1) (M + isM (0, p0, p1, p2, p3)) (fo1 (-1) (0, p0, p1, p2, p3) σ) := (inv_fo1 (lo := -1) (v := (0, p0, p1, p2, p3)) hI hC (show _ ∧ _ from ⟨h0, h1, h2, h3⟩)).1
  have hB := hI.en
  obtain ⟨hr1, hr2⟩ := ek_room (σ := σ) hI2.ev (Nat.le_trans hI2.en (by decide))
  intro sz tt
  refine ofH RL rfl (by decide +kernel) (Nat.le_of_ble_eq_true rfl) (fun p e s m args below meth c hargs S hml hr hlk htab hsz htt hK hA hZ E ls hl => ?_)
  have hx := S.1
  have hb := S.2.1
  have hl : lv_has ls 6 [(0, .ref q.1), (1, .int p0), (2, .int p1), (3, .int p2), (4, .int p3)] := hl
  refine lv_aload_n hx hb dL_setCell_0 rfl (lv_at hl 0 rfl) ?_
  refine lv_iload_n hx hb dL_setCell_1 rfl (lv_at hl 1 rfl) ?_
  refine lv_iload_n hx hb dL_setCell_2 rfl (lv_at hl 2 rfl) ?_
  refine lv_iload_n hx hb dL_setCell_3 rfl (lv_at hl 3 rfl) ?_
  refine lv_iload hx hb dL_setCell_4 (lv_at hl 4 rfl) ?_
  have E := Ev.obN hne E
  refine y_reti (yrunV (As := [.int p0, .int p1, .int p2, .int p3]) (rest := []) (q0 := 0) (n := 4) S hml hK (hZ.at E) (Cut.app E hA) (c_S_setCell l g hst q u σ p0 p1 p2 p3 hu hI hC _ _) (gi_wsV ml_L_13 im_X6_setCell sl_X6_setCell in_X6 co_X6_setCell) ⟨rfl, by decide +kernel, by decide +kernel, by decide +kernel⟩ ⟨Nat.le_of_ble_eq_true rfl, Nat.le_of_ble_eq_true rfl⟩ rfl rfl rfl hl.1 rfl (Nat.le_of_ble_eq_true rfl) dL_setCell_6 ⟨Nat.le_of_ble_eq_true rfl, Nat.le_of_ble_eq_true rfl⟩) (Cut.app E hA) E (fun En ce q9 H locs hp E hce hcv hcl => ?_) (fun r1 u1 H locs hp E => ?_)
  · rcases hp with ⟨_, z⟩ | ⟨_, _, z⟩
    · exact absurd h0 z
    · exact absurd ⟨h1, h2, h3⟩ z
  · have hnx : Nx u (0, p0, p1, p2, p3) u1 := hp.2
    exact vx_ret (x_iret u1 S hr hlk hsz htt hK (Ev.nOb (σ := (fo1 (-1) (0, p0, p1, p2, p3) σ)) hnx.2.1 E) dL_setCell_9 ⟨hp.1, hnx⟩ rfl ⟨by show 0 + _ ≤ _; exact Nat.le_of_eq (Nat.zero_add _), by show 0 + _ ≤ _; exact Nat.le_of_eq (Nat.zero_add _)⟩ ⟨by show 0 + (eg (fo1 (-1) (0, p0, p1, p2, p3) σ) - eg σ + 3) ≤ 61; omega, by show 0 + (2 * ec (fo1 (-1) (0, p0, p1, p2, p3) σ) - 2 * ec σ + 815) ≤ 600005; omega⟩)
set_option maxHeartbeats 1000000 in
set_option maxRecDepth 100000 in
theorem c_L_setCellF (l : Launch) (g : Gm) (hst : l.stackTraces = false) (q : Fx) (u : SOB) (σ : Sg) (p0 : Int32) (p1 : Int32) (p2 : Int32) (p3 : Int32) {C M : Nat} (hu : OkU u) (hne : u.2.2.2.2 = []) (hI : Inv C M σ) (hC : C + 1 ≤ 1000) (h0 : rgOK p0 0 15) (h1 : rgOK p1 (-100) 100) (h2 : rgOK p2 1 50) (h3 : rgOK p3 0 5000) : HXi (S := SOB) l g yL_setCell cL_setCell 6 .int [(0, 9, 10, 19), (0, 9, 15, 22)] ({ frames := 13, cells := 61, slots := 600005, locals := 1176 } : Room) [.ref q.1, .int p0, .int p1, .int p2, .int p3] (OB g q u σ) (fun r u' => r = gi σ 10 p0 ∧ Nx u (0, p0, p1, p2, p3) u') (fun u' => OB g q u' (fo1 (-1) (0, p0, p1, p2, p3) σ)) (kxS σ (fo1 (-1) (0, p0, p1, p2, p3) σ)) := by
  have hI2 : Inv (C + 1) (M + isM (0, p0, p1, p2, p3)) (fo1 (-1) (0, p0, p1, p2, p3) σ) := (inv_fo1 (lo := -1) (v := (0, p0, p1, p2, p3)) hI hC (show _ ∧ _ from ⟨h0, h1, h2, h3⟩)).1
  have hB := hI.en
  obtain ⟨hr1, hr2⟩ := ek_room (σ := σ) hI2.ev (Nat.le_trans hI2.en (by decide))
  intro sz tt
  refine ofH RL rfl (by decide +kernel) (Nat.le_of_ble_eq_true rfl) (fun p e s m args below meth c hargs S hml hr hlk htab hsz htt hK hA hZ E ls hl => ?_)
  have hx := S.1
  have hb := S.2.1
  have hl : lv_has ls 6 [(0, .ref q.1), (1, .int p0), (2, .int p1), (3, .int p2), (4, .int p3)] := hl
  refine lv_aload_n hx hb dL_setCell_0 rfl (lv_at hl 0 rfl) ?_
  refine lv_iload_n hx hb dL_setCell_1 rfl (lv_at hl 1 rfl) ?_
  refine lv_iload_n hx hb dL_setCell_2 rfl (lv_at hl 2 rfl) ?_
  refine lv_iload_n hx hb dL_setCell_3 rfl (lv_at hl 3 rfl) ?_
  refine lv_iload hx hb dL_setCell_4 (lv_at hl 4 rfl) ?_
  have E := Ev.obE hne E
  refine y_reti (yrunV (As := [.int p0, .int p1, .int p2, .int p3]) (rest := []) (q0 := 0) (n := 4) S hml hK (hZ.at E) (Cut.app E hA) (c_SF_setCell l g hst q u σ p0 p1 p2 p3 hu hne hI hC _ _) (gi_wsV ml_L_13 im_X6_setCell sl_X6_setCell in_X6 co_X6_setCell) ⟨rfl, by decide +kernel, by decide +kernel, by decide +kernel⟩ ⟨Nat.le_of_ble_eq_true rfl, Nat.le_of_ble_eq_true rfl⟩ rfl rfl rfl hl.1 rfl (Nat.le_of_ble_eq_true rfl) dL_setCell_6 ⟨Nat.le_of_ble_eq_true rfl, Nat.le_of_ble_eq_true rfl⟩) (Cut.app E hA) E (fun En ce q9 H locs hp E hce hcv hcl => ?_) (fun r1 u1 H locs hp E => ?_)
  · rcases hp with ⟨_, z⟩ | ⟨_, _, z⟩
    · exact absurd h0 z
    · exact absurd ⟨h1, h2, h3⟩ z
  · have hnx : Nx u (0, p0, p1, p2, p3) u1 := hp.2
    exact vx_ret (x_iret u1 S hr hlk hsz htt hK (Ev.nOb (σ := (fo1 (-1) (0, p0, p1, p2, p3) σ)) hnx.2.1 E) dL_setCell_9 ⟨hp.1, hnx⟩ rfl ⟨by show 0 + _ ≤ _; exact Nat.le_of_eq (Nat.zero_add _), by show 0 + _ ≤ _; exact Nat.le_of_eq (Nat.zero_add _)⟩ ⟨by show 0 + (eg (fo1 (-1) (0, p0, p1, p2, p3) σ) - eg σ + 3) ≤ 61; omega, by show 0 + (2 * ec (fo1 (-1) (0, p0, p1, p2, p3) σ) - 2 * ec σ + 815) ≤ 600005; omega⟩)
theorem c_L_setCell (l : Launch) (g : Gm) (hst : l.stackTraces = false) (q : Fx) (u : SOB) (σ : Sg) (p0 : Int32) (p1 : Int32) (p2 : Int32) (p3 : Int32) {C M : Nat} (hu : OkU u) (hI : Inv C M σ) (hC : C + 1 ≤ 1000) (h0 : rgOK p0 0 15) (h1 : rgOK p1 (-100) 100) (h2 : rgOK p2 1 50) (h3 : rgOK p3 0 5000) : HXi (S := SOB) l g yL_setCell cL_setCell 6 .int [(0, 9, 10, 19), (0, 9, 15, 22)] ({ frames := 13, cells := 61, slots := 600005, locals := 1176 } : Room) [.ref q.1, .int p0, .int p1, .int p2, .int p3] (OB g q u σ) (fun r u' => r = gi σ 10 p0 ∧ Nx u (0, p0, p1, p2, p3) u') (fun u' => OB g q u' (fo1 (-1) (0, p0, p1, p2, p3) σ)) (kxS σ (fo1 (-1) (0, p0, p1, p2, p3) σ)) := by
  by_cases hne : u.2.2.2.2 = []
  · exact c_L_setCellF l g hst q u σ p0 p1 p2 p3 hu hne hI hC h0 h1 h2 h3
  · exact c_L_setCellN l g hst q u σ p0 p1 p2 p3 hu hne hI hC h0 h1 h2 h3
set_option maxHeartbeats 1000000 in
set_option maxRecDepth 100000 in
theorem c_L_setGround (l : Launch) (g : Gm) (hst : l.stackTraces = false) (q : Fx) (u : SOB) (σ : Sg) (p0 : Int32) (p1 : Int32) {C M : Nat} (hu : OkU u) (hne : u.2.2.2.2 ≠ []) (hI : Inv C M σ) (hC : C + 1 ≤ 1000) (h0 : rgOK p0 0 7) (h1 : rgOK p1 (-100) 200) : HXi (S := SOB) l g yL_setGround cL_setGround 4 .int [(0, 6, 7, 19), (0, 6, 11, 22)] ({ frames := 13, cells := 61, slots := 600005, locals := 1174 } : Room) [.ref q.1, .int p0, .int p1] (OB g q u σ) (fun r u' => r = gi σ 12 p0 ∧ Nx u (1, p0, p1, 0, 0) u') (fun u' => OB g q u' (fo1 (-1) (1, p0, p1, 0, 0) σ)) (kxS σ (fo1 (-1) (1, p0, p1, 0, 0) σ)) := by
  have hI2 : Inv (C + 1) (M + isM (1, p0, p1, 0, 0)) (fo1 (-1) (1, p0, p1, 0, 0) σ) := (inv_fo1 (lo := -1) (v := (1, p0, p1, 0, 0)) hI hC (show rgOK p0 0 7 from h0)).1
  have hB := hI.en
  obtain ⟨hr1, hr2⟩ := ek_room (σ := σ) hI2.ev (Nat.le_trans hI2.en (by decide))
  intro sz tt
  refine ofH RL rfl (by decide +kernel) (Nat.le_of_ble_eq_true rfl) (fun p e s m args below meth c hargs S hml hr hlk htab hsz htt hK hA hZ E ls hl => ?_)
  have hx := S.1
  have hb := S.2.1
  have hl : lv_has ls 4 [(0, .ref q.1), (1, .int p0), (2, .int p1)] := hl
  refine lv_aload_n hx hb dL_setGround_0 rfl (lv_at hl 0 rfl) ?_
  refine lv_iload_n hx hb dL_setGround_1 rfl (lv_at hl 1 rfl) ?_
  refine lv_iload_n hx hb dL_setGround_2 rfl (lv_at hl 2 rfl) ?_
  have E := Ev.obN hne E
  refine y_reti (yrunV (As := [.int p0, .int p1]) (rest := []) (q0 := 0) (n := 2) S hml hK (hZ.at E) (Cut.app E hA) (c_S_setGround l g hst q u σ p0 p1 hu hI hC _ _) (gi_wsV ml_L_25 im_X6_setGround sl_X6_setGround in_X6 co_X6_setGround) ⟨rfl, by decide +kernel, by decide +kernel, by decide +kernel⟩ ⟨Nat.le_of_ble_eq_true rfl, Nat.le_of_ble_eq_true rfl⟩ rfl rfl rfl hl.1 rfl (Nat.le_of_ble_eq_true rfl) dL_setGround_3 ⟨Nat.le_of_ble_eq_true rfl, Nat.le_of_ble_eq_true rfl⟩) (Cut.app E hA) E (fun En ce q9 H locs hp E hce hcv hcl => ?_) (fun r1 u1 H locs hp E => ?_)
  · rcases hp with ⟨_, z⟩ | ⟨_, _, z⟩
    · exact absurd h0 z
    · exact absurd h1 z
  · have hnx : Nx u (1, p0, p1, 0, 0) u1 := hp.2
    exact vx_ret (x_iret u1 S hr hlk hsz htt hK (Ev.nOb (σ := (fo1 (-1) (1, p0, p1, 0, 0) σ)) hnx.2.1 E) dL_setGround_6 ⟨hp.1, hnx⟩ rfl ⟨by show 0 + _ ≤ _; exact Nat.le_of_eq (Nat.zero_add _), by show 0 + _ ≤ _; exact Nat.le_of_eq (Nat.zero_add _)⟩ ⟨by show 0 + (eg (fo1 (-1) (1, p0, p1, 0, 0) σ) - eg σ + 3) ≤ 61; omega, by show 0 + (2 * ec (fo1 (-1) (1, p0, p1, 0, 0) σ) - 2 * ec σ + 815) ≤ 600005; omega⟩)
set_option maxHeartbeats 1000000 in
set_option maxRecDepth 100000 in
theorem c_L_setConductance (l : Launch) (g : Gm) (hst : l.stackTraces = false) (q : Fx) (u : SOB) (σ : Sg) (p0 : Int32) (p1 : Int32) {C M : Nat} (hu : OkU u) (hne : u.2.2.2.2 ≠ []) (hI : Inv C M σ) (hC : C + 1 ≤ 1000) (h0 : rgOK p0 0 1) (h1 : rgOK p1 0 9) : HXi (S := SOB) l g yL_setConductance cL_setConductance 4 .int [(0, 6, 7, 19), (0, 6, 11, 22)] ({ frames := 13, cells := 61, slots := 600005, locals := 1174 } : Room) [.ref q.1, .int p0, .int p1] (OB g q u σ) (fun r u' => r = gi σ 13 p0 ∧ Nx u (2, p0, p1, 0, 0) u') (fun u' => OB g q u' (fo1 (-1) (2, p0, p1, 0, 0) σ)) (kxS σ (fo1 (-1) (2, p0, p1, 0, 0) σ)) := by
  have hI2 : Inv (C + 1) (M + isM (2, p0, p1, 0, 0)) (fo1 (-1) (2, p0, p1, 0, 0) σ) := (inv_fo1 (lo := -1) (v := (2, p0, p1, 0, 0)) hI hC (show rgOK p0 0 1 from h0)).1
  have hB := hI.en
  obtain ⟨hr1, hr2⟩ := ek_room (σ := σ) hI2.ev (Nat.le_trans hI2.en (by decide))
  intro sz tt
  refine ofH RL rfl (by decide +kernel) (Nat.le_of_ble_eq_true rfl) (fun p e s m args below meth c hargs S hml hr hlk htab hsz htt hK hA hZ E ls hl => ?_)
  have hx := S.1
  have hb := S.2.1
  have hl : lv_has ls 4 [(0, .ref q.1), (1, .int p0), (2, .int p1)] := hl
  refine lv_aload_n hx hb dL_setConductance_0 rfl (lv_at hl 0 rfl) ?_
  refine lv_iload_n hx hb dL_setConductance_1 rfl (lv_at hl 1 rfl) ?_
  refine lv_iload_n hx hb dL_setConductance_2 rfl (lv_at hl 2 rfl) ?_
  have E := Ev.obN hne E
  refine y_reti (yrunV (As := [.int p0, .int p1]) (rest := []) (q0 := 0) (n := 2) S hml hK (hZ.at E) (Cut.app E hA) (c_S_setConductance l g hst q u σ p0 p1 hu hI hC _ _) (gi_wsV ml_L_29 im_X6_setConductance sl_X6_setConductance in_X6 co_X6_setConductance) ⟨rfl, by decide +kernel, by decide +kernel, by decide +kernel⟩ ⟨Nat.le_of_ble_eq_true rfl, Nat.le_of_ble_eq_true rfl⟩ rfl rfl rfl hl.1 rfl (Nat.le_of_ble_eq_true rfl) dL_setConductance_3 ⟨Nat.le_of_ble_eq_true rfl, Nat.le_of_ble_eq_true rfl⟩) (Cut.app E hA) E (fun En ce q9 H locs hp E hce hcv hcl => ?_) (fun r1 u1 H locs hp E => ?_)
  · rcases hp with ⟨_, z⟩ | ⟨_, _, z⟩
    · exact absurd h0 z
    · exact absurd h1 z
  · have hnx : Nx u (2, p0, p1, 0, 0) u1 := hp.2
    exact vx_ret (x_iret u1 S hr hlk hsz htt hK (Ev.nOb (σ := (fo1 (-1) (2, p0, p1, 0, 0) σ)) hnx.2.1 E) dL_setConductance_6 ⟨hp.1, hnx⟩ rfl ⟨by show 0 + _ ≤ _; exact Nat.le_of_eq (Nat.zero_add _), by show 0 + _ ≤ _; exact Nat.le_of_eq (Nat.zero_add _)⟩ ⟨by show 0 + (eg (fo1 (-1) (2, p0, p1, 0, 0) σ) - eg σ + 3) ≤ 61; omega, by show 0 + (2 * ec (fo1 (-1) (2, p0, p1, 0, 0) σ) - 2 * ec σ + 815) ≤ 600005; omega⟩)
set_option maxHeartbeats 1000000 in
set_option maxRecDepth 100000 in
theorem c_L_setLeakage (l : Launch) (g : Gm) (hst : l.stackTraces = false) (q : Fx) (u : SOB) (σ : Sg) (p0 : Int32) (p1 : Int32) {C M : Nat} (hu : OkU u) (hne : u.2.2.2.2 ≠ []) (hI : Inv C M σ) (hC : C + 1 ≤ 1000) (h0 : rgOK p0 0 7) (h1 : rgOK p1 0 9) : HXi (S := SOB) l g yL_setLeakage cL_setLeakage 4 .int [(0, 6, 7, 19), (0, 6, 11, 22)] ({ frames := 13, cells := 61, slots := 600005, locals := 1174 } : Room) [.ref q.1, .int p0, .int p1] (OB g q u σ) (fun r u' => r = gi σ 14 p0 ∧ Nx u (3, p0, p1, 0, 0) u') (fun u' => OB g q u' (fo1 (-1) (3, p0, p1, 0, 0) σ)) (kxS σ (fo1 (-1) (3, p0, p1, 0, 0) σ)) := by
  have hI2 : Inv (C + 1) (M + isM (3, p0, p1, 0, 0)) (fo1 (-1) (3, p0, p1, 0, 0) σ) := (inv_fo1 (lo := -1) (v := (3, p0, p1, 0, 0)) hI hC (show rgOK p0 0 7 from h0)).1
  have hB := hI.en
  obtain ⟨hr1, hr2⟩ := ek_room (σ := σ) hI2.ev (Nat.le_trans hI2.en (by decide))
  intro sz tt
  refine ofH RL rfl (by decide +kernel) (Nat.le_of_ble_eq_true rfl) (fun p e s m args below meth c hargs S hml hr hlk htab hsz htt hK hA hZ E ls hl => ?_)
  have hx := S.1
  have hb := S.2.1
  have hl : lv_has ls 4 [(0, .ref q.1), (1, .int p0), (2, .int p1)] := hl
  refine lv_aload_n hx hb dL_setLeakage_0 rfl (lv_at hl 0 rfl) ?_
  refine lv_iload_n hx hb dL_setLeakage_1 rfl (lv_at hl 1 rfl) ?_
  refine lv_iload_n hx hb dL_setLeakage_2 rfl (lv_at hl 2 rfl) ?_
  have E := Ev.obN hne E
  refine y_reti (yrunV (As := [.int p0, .int p1]) (rest := []) (q0 := 0) (n := 2) S hml hK (hZ.at E) (Cut.app E hA) (c_S_setLeakage l g hst q u σ p0 p1 hu hI hC _ _) (gi_wsV ml_L_32 im_X6_setLeakage sl_X6_setLeakage in_X6 co_X6_setLeakage) ⟨rfl, by decide +kernel, by decide +kernel, by decide +kernel⟩ ⟨Nat.le_of_ble_eq_true rfl, Nat.le_of_ble_eq_true rfl⟩ rfl rfl rfl hl.1 rfl (Nat.le_of_ble_eq_true rfl) dL_setLeakage_3 ⟨Nat.le_of_ble_eq_true rfl, Nat.le_of_ble_eq_true rfl⟩) (Cut.app E hA) E (fun En ce q9 H locs hp E hce hcv hcl => ?_) (fun r1 u1 H locs hp E => ?_)
  · rcases hp with ⟨_, z⟩ | ⟨_, _, z⟩
    · exact absurd h0 z
    · exact absurd h1 z
  · have hnx : Nx u (3, p0, p1, 0, 0) u1 := hp.2
    exact vx_ret (x_iret u1 S hr hlk hsz htt hK (Ev.nOb (σ := (fo1 (-1) (3, p0, p1, 0, 0) σ)) hnx.2.1 E) dL_setLeakage_6 ⟨hp.1, hnx⟩ rfl ⟨by show 0 + _ ≤ _; exact Nat.le_of_eq (Nat.zero_add _), by show 0 + _ ≤ _; exact Nat.le_of_eq (Nat.zero_add _)⟩ ⟨by show 0 + (eg (fo1 (-1) (3, p0, p1, 0, 0) σ) - eg σ + 3) ≤ 61; omega, by show 0 + (2 * ec (fo1 (-1) (3, p0, p1, 0, 0) σ) - 2 * ec σ + 815) ≤ 600005; omega⟩)
set_option maxHeartbeats 1000000 in
set_option maxRecDepth 100000 in
theorem c_L_setRain (l : Launch) (g : Gm) (hst : l.stackTraces = false) (q : Fx) (u : SOB) (σ : Sg) (p0 : Int32) (p1 : Int32) {C M : Nat} (hu : OkU u) (hne : u.2.2.2.2 ≠ []) (hI : Inv C M σ) (hC : C + 1 ≤ 1000) (h0 : rgOK p0 0 7) (h1 : rgOK p1 0 99) : HXi (S := SOB) l g yL_setRain cL_setRain 4 .int [(0, 6, 7, 19), (0, 6, 11, 22)] ({ frames := 13, cells := 61, slots := 600005, locals := 1174 } : Room) [.ref q.1, .int p0, .int p1] (OB g q u σ) (fun r u' => r = gi σ 15 p0 ∧ Nx u (4, p0, p1, 0, 0) u') (fun u' => OB g q u' (fo1 (-1) (4, p0, p1, 0, 0) σ)) (kxS σ (fo1 (-1) (4, p0, p1, 0, 0) σ)) := by
  have hI2 : Inv (C + 1) (M + isM (4, p0, p1, 0, 0)) (fo1 (-1) (4, p0, p1, 0, 0) σ) := (inv_fo1 (lo := -1) (v := (4, p0, p1, 0, 0)) hI hC (show _ ∧ _ from ⟨h0, h1⟩)).1
  have hB := hI.en
  obtain ⟨hr1, hr2⟩ := ek_room (σ := σ) hI2.ev (Nat.le_trans hI2.en (by decide))
  intro sz tt
  refine ofH RL rfl (by decide +kernel) (Nat.le_of_ble_eq_true rfl) (fun p e s m args below meth c hargs S hml hr hlk htab hsz htt hK hA hZ E ls hl => ?_)
  have hx := S.1
  have hb := S.2.1
  have hl : lv_has ls 4 [(0, .ref q.1), (1, .int p0), (2, .int p1)] := hl
  refine lv_aload_n hx hb dL_setRain_0 rfl (lv_at hl 0 rfl) ?_
  refine lv_iload_n hx hb dL_setRain_1 rfl (lv_at hl 1 rfl) ?_
  refine lv_iload_n hx hb dL_setRain_2 rfl (lv_at hl 2 rfl) ?_
  have E := Ev.obN hne E
  refine y_reti (yrunV (As := [.int p0, .int p1]) (rest := []) (q0 := 0) (n := 2) S hml hK (hZ.at E) (Cut.app E hA) (c_S_setRain l g hst q u σ p0 p1 hu hI hC _ _) (gi_wsV ml_L_35 im_X6_setRain sl_X6_setRain in_X6 co_X6_setRain) ⟨rfl, by decide +kernel, by decide +kernel, by decide +kernel⟩ ⟨Nat.le_of_ble_eq_true rfl, Nat.le_of_ble_eq_true rfl⟩ rfl rfl rfl hl.1 rfl (Nat.le_of_ble_eq_true rfl) dL_setRain_3 ⟨Nat.le_of_ble_eq_true rfl, Nat.le_of_ble_eq_true rfl⟩) (Cut.app E hA) E (fun En ce q9 H locs hp E hce hcv hcl => ?_) (fun r1 u1 H locs hp E => ?_)
  · rcases hp with ⟨_, z⟩ | ⟨_, _, z⟩
    · exact absurd h0 z
    · exact absurd h1 z
  · have hnx : Nx u (4, p0, p1, 0, 0) u1 := hp.2
    exact vx_ret (x_iret u1 S hr hlk hsz htt hK (Ev.nOb (σ := (fo1 (-1) (4, p0, p1, 0, 0) σ)) hnx.2.1 E) dL_setRain_6 ⟨hp.1, hnx⟩ rfl ⟨by show 0 + _ ≤ _; exact Nat.le_of_eq (Nat.zero_add _), by show 0 + _ ≤ _; exact Nat.le_of_eq (Nat.zero_add _)⟩ ⟨by show 0 + (eg (fo1 (-1) (4, p0, p1, 0, 0) σ) - eg σ + 3) ≤ 61; omega, by show 0 + (2 * ec (fo1 (-1) (4, p0, p1, 0, 0) σ) - 2 * ec σ + 815) ≤ 600005; omega⟩)
set_option maxHeartbeats 1000000 in
set_option maxRecDepth 100000 in
theorem c_L_setBed (l : Launch) (g : Gm) (hst : l.stackTraces = false) (q : Fx) (u : SOB) (σ : Sg) (p0 : Int32) (p1 : Int32) (p2 : Int32) {C M : Nat} (hu : OkU u) (hne : u.2.2.2.2 ≠ []) (hI : Inv C M σ) (hC : C + 1 ≤ 1000) (h0 : rgOK p0 0 7) (h1 : rgOK p1 (-100) 100) (h2 : rgOK p2 0 9) : HXi (S := SOB) l g yL_setBed cL_setBed 5 .int [(0, 7, 8, 19), (0, 7, 13, 22)] ({ frames := 13, cells := 61, slots := 600005, locals := 1175 } : Room) [.ref q.1, .int p0, .int p1, .int p2] (OB g q u σ) (fun r u' => r = gi σ 17 p0 ∧ Nx u (5, p0, p1, p2, 0) u') (fun u' => OB g q u' (fo1 (-1) (5, p0, p1, p2, 0) σ)) (kxS σ (fo1 (-1) (5, p0, p1, p2, 0) σ)) := by
  have hI2 : Inv (C + 1) (M + isM (5, p0, p1, p2, 0)) (fo1 (-1) (5, p0, p1, p2, 0) σ) := (inv_fo1 (lo := -1) (v := (5, p0, p1, p2, 0)) hI hC (show _ ∧ _ from ⟨h0, h1, h2⟩)).1
  have hB := hI.en
  obtain ⟨hr1, hr2⟩ := ek_room (σ := σ) hI2.ev (Nat.le_trans hI2.en (by decide))
  intro sz tt
  refine ofH RL rfl (by decide +kernel) (Nat.le_of_ble_eq_true rfl) (fun p e s m args below meth c hargs S hml hr hlk htab hsz htt hK hA hZ E ls hl => ?_)
  have hx := S.1
  have hb := S.2.1
  have hl : lv_has ls 5 [(0, .ref q.1), (1, .int p0), (2, .int p1), (3, .int p2)] := hl
  refine lv_aload_n hx hb dL_setBed_0 rfl (lv_at hl 0 rfl) ?_
  refine lv_iload_n hx hb dL_setBed_1 rfl (lv_at hl 1 rfl) ?_
  refine lv_iload_n hx hb dL_setBed_2 rfl (lv_at hl 2 rfl) ?_
  refine lv_iload_n hx hb dL_setBed_3 rfl (lv_at hl 3 rfl) ?_
  have E := Ev.obN hne E
  refine y_reti (yrunV (As := [.int p0, .int p1, .int p2]) (rest := []) (q0 := 0) (n := 3) S hml hK (hZ.at E) (Cut.app E hA) (c_S_setBed l g hst q u σ p0 p1 p2 hu hI hC _ _) (gi_wsV ml_L_38 im_X6_setBed sl_X6_setBed in_X6 co_X6_setBed) ⟨rfl, by decide +kernel, by decide +kernel, by decide +kernel⟩ ⟨Nat.le_of_ble_eq_true rfl, Nat.le_of_ble_eq_true rfl⟩ rfl rfl rfl hl.1 rfl (Nat.le_of_ble_eq_true rfl) dL_setBed_4 ⟨Nat.le_of_ble_eq_true rfl, Nat.le_of_ble_eq_true rfl⟩) (Cut.app E hA) E (fun En ce q9 H locs hp E hce hcv hcl => ?_) (fun r1 u1 H locs hp E => ?_)
  · rcases hp with ⟨_, z⟩ | ⟨_, _, z⟩
    · exact absurd h0 z
    · exact absurd ⟨h1, h2⟩ z
  · have hnx : Nx u (5, p0, p1, p2, 0) u1 := hp.2
    exact vx_ret (x_iret u1 S hr hlk hsz htt hK (Ev.nOb (σ := (fo1 (-1) (5, p0, p1, p2, 0) σ)) hnx.2.1 E) dL_setBed_7 ⟨hp.1, hnx⟩ rfl ⟨by show 0 + _ ≤ _; exact Nat.le_of_eq (Nat.zero_add _), by show 0 + _ ≤ _; exact Nat.le_of_eq (Nat.zero_add _)⟩ ⟨by show 0 + (eg (fo1 (-1) (5, p0, p1, p2, 0) σ) - eg σ + 3) ≤ 61; omega, by show 0 + (2 * ec (fo1 (-1) (5, p0, p1, p2, 0) σ) - 2 * ec σ + 815) ≤ 600005; omega⟩)
set_option maxHeartbeats 1000000 in
set_option maxRecDepth 100000 in
theorem c_L_setRiver (l : Launch) (g : Gm) (hst : l.stackTraces = false) (q : Fx) (u : SOB) (σ : Sg) (p0 : Int32) {C M : Nat} (hu : OkU u) (hne : u.2.2.2.2 ≠ []) (hI : Inv C M σ) (hC : C + 1 ≤ 1000) (h0 : rgOK p0 0 999) : HXi (S := SOB) l g yL_setRiver cL_setRiver 3 .int [(0, 5, 6, 22)] ({ frames := 13, cells := 61, slots := 600005, locals := 1173 } : Room) [.ref q.1, .int p0] (OB g q u σ) (fun r u' => r = gs σ 2 ∧ Nx u (6, p0, 0, 0, 0) u') (fun u' => OB g q u' (fo1 (-1) (6, p0, 0, 0, 0) σ)) (kxS σ (fo1 (-1) (6, p0, 0, 0, 0) σ)) := by
  have hI2 : Inv (C + 1) (M + isM (6, p0, 0, 0, 0)) (fo1 (-1) (6, p0, 0, 0, 0) σ) := (inv_fo1 (lo := -1) (v := (6, p0, 0, 0, 0)) hI hC (show rgOK p0 0 999 from h0)).1
  have hB := hI.en
  obtain ⟨hr1, hr2⟩ := ek_room (σ := σ) hI2.ev (Nat.le_trans hI2.en (by decide))
  intro sz tt
  refine ofH RL rfl (by decide +kernel) (Nat.le_of_ble_eq_true rfl) (fun p e s m args below meth c hargs S hml hr hlk htab hsz htt hK hA hZ E ls hl => ?_)
  have hx := S.1
  have hb := S.2.1
  have hl : lv_has ls 3 [(0, .ref q.1), (1, .int p0)] := hl
  refine lv_aload_n hx hb dL_setRiver_0 rfl (lv_at hl 0 rfl) ?_
  refine lv_iload_n hx hb dL_setRiver_1 rfl (lv_at hl 1 rfl) ?_
  have E := Ev.obN hne E
  refine y_reti (yrunV (As := [.int p0]) (rest := []) (q0 := 0) (n := 1) S hml hK (hZ.at E) (Cut.app E hA) (c_S_setRiver l g hst q u σ p0 hu hI hC _ _) (gi_wsV ml_L_42 im_X6_setRiver sl_X6_setRiver in_X6 co_X6_setRiver) ⟨rfl, by decide +kernel, by decide +kernel, by decide +kernel⟩ ⟨Nat.le_of_ble_eq_true rfl, Nat.le_of_ble_eq_true rfl⟩ rfl rfl rfl hl.1 rfl (Nat.le_of_ble_eq_true rfl) dL_setRiver_2 ⟨Nat.le_of_ble_eq_true rfl, Nat.le_of_ble_eq_true rfl⟩) (Cut.app E hA) E (fun En ce q9 H locs hp E hce hcv hcl => ?_) (fun r1 u1 H locs hp E => ?_)
  · exact absurd h0 hp.2
  · have hnx : Nx u (6, p0, 0, 0, 0) u1 := hp.2
    exact vx_ret (x_iret u1 S hr hlk hsz htt hK (Ev.nOb (σ := (fo1 (-1) (6, p0, 0, 0, 0) σ)) hnx.2.1 E) dL_setRiver_5 ⟨hp.1, hnx⟩ rfl ⟨by show 0 + _ ≤ _; exact Nat.le_of_eq (Nat.zero_add _), by show 0 + _ ≤ _; exact Nat.le_of_eq (Nat.zero_add _)⟩ ⟨by show 0 + (eg (fo1 (-1) (6, p0, 0, 0, 0) σ) - eg σ + 3) ≤ 61; omega, by show 0 + (2 * ec (fo1 (-1) (6, p0, 0, 0, 0) σ) - 2 * ec σ + 815) ≤ 600005; omega⟩)
set_option maxHeartbeats 1000000 in
set_option maxRecDepth 100000 in
theorem c_L_setSea (l : Launch) (g : Gm) (hst : l.stackTraces = false) (q : Fx) (u : SOB) (σ : Sg) (p0 : Int32) {C M : Nat} (hu : OkU u) (hne : u.2.2.2.2 ≠ []) (hI : Inv C M σ) (hC : C + 1 ≤ 1000) (h0 : rgOK p0 0 9) : HXi (S := SOB) l g yL_setSea cL_setSea 3 .int [(0, 5, 6, 22)] ({ frames := 13, cells := 61, slots := 600005, locals := 1173 } : Room) [.ref q.1, .int p0] (OB g q u σ) (fun r u' => r = gs σ 3 ∧ Nx u (7, p0, 0, 0, 0) u') (fun u' => OB g q u' (fo1 (-1) (7, p0, 0, 0, 0) σ)) (kxS σ (fo1 (-1) (7, p0, 0, 0, 0) σ)) := by
  have hI2 : Inv (C + 1) (M + isM (7, p0, 0, 0, 0)) (fo1 (-1) (7, p0, 0, 0, 0) σ) := (inv_fo1 (lo := -1) (v := (7, p0, 0, 0, 0)) hI hC (show rgOK p0 0 9 from h0)).1
  have hB := hI.en
  obtain ⟨hr1, hr2⟩ := ek_room (σ := σ) hI2.ev (Nat.le_trans hI2.en (by decide))
  intro sz tt
  refine ofH RL rfl (by decide +kernel) (Nat.le_of_ble_eq_true rfl) (fun p e s m args below meth c hargs S hml hr hlk htab hsz htt hK hA hZ E ls hl => ?_)
  have hx := S.1
  have hb := S.2.1
  have hl : lv_has ls 3 [(0, .ref q.1), (1, .int p0)] := hl
  refine lv_aload_n hx hb dL_setSea_0 rfl (lv_at hl 0 rfl) ?_
  refine lv_iload_n hx hb dL_setSea_1 rfl (lv_at hl 1 rfl) ?_
  have E := Ev.obN hne E
  refine y_reti (yrunV (As := [.int p0]) (rest := []) (q0 := 0) (n := 1) S hml hK (hZ.at E) (Cut.app E hA) (c_S_setSea l g hst q u σ p0 hu hI hC _ _) (gi_wsV ml_L_46 im_X6_setSea sl_X6_setSea in_X6 co_X6_setSea) ⟨rfl, by decide +kernel, by decide +kernel, by decide +kernel⟩ ⟨Nat.le_of_ble_eq_true rfl, Nat.le_of_ble_eq_true rfl⟩ rfl rfl rfl hl.1 rfl (Nat.le_of_ble_eq_true rfl) dL_setSea_2 ⟨Nat.le_of_ble_eq_true rfl, Nat.le_of_ble_eq_true rfl⟩) (Cut.app E hA) E (fun En ce q9 H locs hp E hce hcv hcl => ?_) (fun r1 u1 H locs hp E => ?_)
  · exact absurd h0 hp.2
  · have hnx : Nx u (7, p0, 0, 0, 0) u1 := hp.2
    exact vx_ret (x_iret u1 S hr hlk hsz htt hK (Ev.nOb (σ := (fo1 (-1) (7, p0, 0, 0, 0) σ)) hnx.2.1 E) dL_setSea_5 ⟨hp.1, hnx⟩ rfl ⟨by show 0 + _ ≤ _; exact Nat.le_of_eq (Nat.zero_add _), by show 0 + _ ≤ _; exact Nat.le_of_eq (Nat.zero_add _)⟩ ⟨by show 0 + (eg (fo1 (-1) (7, p0, 0, 0, 0) σ) - eg σ + 3) ≤ 61; omega, by show 0 + (2 * ec (fo1 (-1) (7, p0, 0, 0, 0) σ) - 2 * ec σ + 815) ≤ 600005; omega⟩)
set_option maxHeartbeats 1000000 in
set_option maxRecDepth 100000 in
theorem c_L_addWell (l : Launch) (g : Gm) (hst : l.stackTraces = false) (q : Fx) (u : SOB) (σ : Sg) (p0 : Int32) (p1 : Int32) (p2 : Int32) {C M : Nat} (hu : OkU u) (hne : u.2.2.2.2 ≠ []) (hI : Inv C M σ) (hC : C + 1 ≤ 1000) (h0 : rgOK p0 0 15) (h1 : rgOK p1 0 9999) (h2 : rgOK p2 0 999) (hn : cnt σ < 6) (hn4 : gs σ 4 < 6) : HXi (S := SOB) l g yL_addWell cL_addWell 5 .int [(0, 7, 8, 19), (0, 7, 13, 22), (0, 7, 18, 52)] ({ frames := 13, cells := 61, slots := 600005, locals := 1175 } : Room) [.ref q.1, .int p0, .int p1, .int p2] (OB g q u σ) (fun r u' => r = gs σ 4 ∧ Nx u (8, p0, p1, p2, 0) u') (fun u' => OB g q u' (fo1 (-1) (8, p0, p1, p2, 0) σ)) (kxS σ (fo1 (-1) (8, p0, p1, p2, 0) σ)) := by
  have hI2 : Inv (C + 1) (M + isM (8, p0, p1, p2, 0)) (fo1 (-1) (8, p0, p1, p2, 0) σ) := (inv_fo1 (lo := -1) (v := (8, p0, p1, p2, 0)) hI hC (show _ ∧ _ from ⟨h0, h2, hn⟩)).1
  have hB := hI.en
  obtain ⟨hr1, hr2⟩ := ek_room (σ := σ) hI2.ev (Nat.le_trans hI2.en (by decide))
  intro sz tt
  refine ofH RL rfl (by decide +kernel) (Nat.le_of_ble_eq_true rfl) (fun p e s m args below meth c hargs S hml hr hlk htab hsz htt hK hA hZ E ls hl => ?_)
  have hx := S.1
  have hb := S.2.1
  have hl : lv_has ls 5 [(0, .ref q.1), (1, .int p0), (2, .int p1), (3, .int p2)] := hl
  refine lv_aload_n hx hb dL_addWell_0 rfl (lv_at hl 0 rfl) ?_
  refine lv_iload_n hx hb dL_addWell_1 rfl (lv_at hl 1 rfl) ?_
  refine lv_iload_n hx hb dL_addWell_2 rfl (lv_at hl 2 rfl) ?_
  refine lv_iload_n hx hb dL_addWell_3 rfl (lv_at hl 3 rfl) ?_
  have E := Ev.obN hne E
  refine y_reti (yrunV (As := [.int p0, .int p1, .int p2]) (rest := []) (q0 := 0) (n := 3) S hml hK (hZ.at E) (Cut.app E hA) (c_S_addWell l g hst q u σ p0 p1 p2 hu hI hC _ _) (gi_wsV ml_L_49 im_X6_addWell sl_X6_addWell in_X6 co_X6_addWell) ⟨rfl, by decide +kernel, by decide +kernel, by decide +kernel⟩ ⟨Nat.le_of_ble_eq_true rfl, Nat.le_of_ble_eq_true rfl⟩ rfl rfl rfl hl.1 rfl (Nat.le_of_ble_eq_true rfl) dL_addWell_4 ⟨Nat.le_of_ble_eq_true rfl, Nat.le_of_ble_eq_true rfl⟩) (Cut.app E hA) E (fun En ce q9 H locs hp E hce hcv hcl => ?_) (fun r1 u1 H locs hp E => ?_)
  · rcases hp with ⟨_, z⟩ | ⟨_, _, z⟩ | ⟨_, _, _, z⟩
    · exact absurd h0 z
    · exact absurd ⟨h1, h2⟩ z
    · exact absurd hn4 z
  · have hnx : Nx u (8, p0, p1, p2, 0) u1 := hp.2
    exact vx_ret (x_iret u1 S hr hlk hsz htt hK (Ev.nOb (σ := (fo1 (-1) (8, p0, p1, p2, 0) σ)) hnx.2.1 E) dL_addWell_7 ⟨hp.1, hnx⟩ rfl ⟨by show 0 + _ ≤ _; exact Nat.le_of_eq (Nat.zero_add _), by show 0 + _ ≤ _; exact Nat.le_of_eq (Nat.zero_add _)⟩ ⟨by show 0 + (eg (fo1 (-1) (8, p0, p1, p2, 0) σ) - eg σ + 3) ≤ 61; omega, by show 0 + (2 * ec (fo1 (-1) (8, p0, p1, p2, 0) σ) - 2 * ec σ + 815) ≤ 600005; omega⟩)
set_option maxHeartbeats 1000000 in
set_option maxRecDepth 100000 in
theorem c_L_setWish (l : Launch) (g : Gm) (hst : l.stackTraces = false) (q : Fx) (u : SOB) (σ : Sg) (p0 : Int32) (p1 : Int32) {C M : Nat} (hu : OkU u) (hne : u.2.2.2.2 ≠ []) (hI : Inv C M σ) (hC : C + 1 ≤ 1000) (h0 : ixOK p0 (gs σ 4)) (h1 : rgOK p1 0 99) : HXi (S := SOB) l g yL_setWish cL_setWish 4 .int [(0, 6, 7, 19), (0, 6, 11, 22)] ({ frames := 13, cells := 61, slots := 600005, locals := 1174 } : Room) [.ref q.1, .int p0, .int p1] (OB g q u σ) (fun r u' => r = gi σ 21 p0 ∧ Nx u (9, p0, p1, 0, 0) u') (fun u' => OB g q u' (fo1 (-1) (9, p0, p1, 0, 0) σ)) (kxS σ (fo1 (-1) (9, p0, p1, 0, 0) σ)) := by
  have hI2 : Inv (C + 1) (M + isM (9, p0, p1, 0, 0)) (fo1 (-1) (9, p0, p1, 0, 0) σ) := (inv_fo1 (lo := -1) (v := (9, p0, p1, 0, 0)) hI hC (show _ ∧ _ from ⟨by rw [← hI.wf.n]; exact h0, h1⟩)).1
  have hB := hI.en
  obtain ⟨hr1, hr2⟩ := ek_room (σ := σ) hI2.ev (Nat.le_trans hI2.en (by decide))
  intro sz tt
  refine ofH RL rfl (by decide +kernel) (Nat.le_of_ble_eq_true rfl) (fun p e s m args below meth c hargs S hml hr hlk htab hsz htt hK hA hZ E ls hl => ?_)
  have hx := S.1
  have hb := S.2.1
  have hl : lv_has ls 4 [(0, .ref q.1), (1, .int p0), (2, .int p1)] := hl
  refine lv_aload_n hx hb dL_setWish_0 rfl (lv_at hl 0 rfl) ?_
  refine lv_iload_n hx hb dL_setWish_1 rfl (lv_at hl 1 rfl) ?_
  refine lv_iload_n hx hb dL_setWish_2 rfl (lv_at hl 2 rfl) ?_
  have E := Ev.obN hne E
  refine y_reti (yrunV (As := [.int p0, .int p1]) (rest := []) (q0 := 0) (n := 2) S hml hK (hZ.at E) (Cut.app E hA) (c_S_setWish l g hst q u σ p0 p1 hu hI hC _ _) (gi_wsV ml_L_55 im_X6_setWish sl_X6_setWish in_X6 co_X6_setWish) ⟨rfl, by decide +kernel, by decide +kernel, by decide +kernel⟩ ⟨Nat.le_of_ble_eq_true rfl, Nat.le_of_ble_eq_true rfl⟩ rfl rfl rfl hl.1 rfl (Nat.le_of_ble_eq_true rfl) dL_setWish_3 ⟨Nat.le_of_ble_eq_true rfl, Nat.le_of_ble_eq_true rfl⟩) (Cut.app E hA) E (fun En ce q9 H locs hp E hce hcv hcl => ?_) (fun r1 u1 H locs hp E => ?_)
  · rcases hp with ⟨_, z⟩ | ⟨_, _, z⟩
    · exact absurd h0 z
    · exact absurd h1 z
  · have hnx : Nx u (9, p0, p1, 0, 0) u1 := hp.2
    exact vx_ret (x_iret u1 S hr hlk hsz htt hK (Ev.nOb (σ := (fo1 (-1) (9, p0, p1, 0, 0) σ)) hnx.2.1 E) dL_setWish_6 ⟨hp.1, hnx⟩ rfl ⟨by show 0 + _ ≤ _; exact Nat.le_of_eq (Nat.zero_add _), by show 0 + _ ≤ _; exact Nat.le_of_eq (Nat.zero_add _)⟩ ⟨by show 0 + (eg (fo1 (-1) (9, p0, p1, 0, 0) σ) - eg σ + 3) ≤ 61; omega, by show 0 + (2 * ec (fo1 (-1) (9, p0, p1, 0, 0) σ) - 2 * ec σ + 815) ≤ 600005; omega⟩)
set_option maxHeartbeats 1000000 in
set_option maxRecDepth 100000 in
theorem c_L_transfer (l : Launch) (g : Gm) (hst : l.stackTraces = false) (q : Fx) (u : SOB) (σ : Sg) (p0 : Int32) (p1 : Int32) (p2 : Int32) {C M : Nat} (hu : OkU u) (hne : u.2.2.2.2 ≠ []) (hI : Inv C M σ) (hC : C + 1 ≤ 1000) (h0 : ixOK p0 (gs σ 4)) (h1 : ixOK p1 (gs σ 4)) (h2 : rgOK p2 1 999) (hg : ¬ f_X4_canGive σ p0 p1 p2 = 0) : HXi (S := SOB) l g yL_transfer cL_transfer 5 .int [(0, 7, 8, 19), (0, 7, 13, 22), (0, 7, 18, 61)] ({ frames := 13, cells := 61, slots := 600005, locals := 1174 } : Room) [.ref q.1, .int p0, .int p1, .int p2] (OB g q u σ) (fun r u' => r = gi (fo1 (-1) (10, p0, p1, p2, 0) σ) 20 p0 ∧ Nx u (10, p0, p1, p2, 0) u') (fun u' => OB g q u' (fo1 (-1) (10, p0, p1, p2, 0) σ)) (kxS σ (fo1 (-1) (10, p0, p1, p2, 0) σ)) := by
  have hI2 : Inv (C + 1) (M + isM (10, p0, p1, p2, 0)) (fo1 (-1) (10, p0, p1, p2, 0) σ) := (inv_fo1 (lo := -1) (v := (10, p0, p1, p2, 0)) hI hC (show _ ∧ _ from ⟨by rw [← hI.wf.n]; exact h0, by rw [← hI.wf.n]; exact h1, h2⟩)).1
  have hB := hI.en
  obtain ⟨hr1, hr2⟩ := ek_room (σ := σ) hI2.ev (Nat.le_trans hI2.en (by decide))
  intro sz tt
  refine ofH RL rfl (by decide +kernel) (Nat.le_of_ble_eq_true rfl) (fun p e s m args below meth c hargs S hml hr hlk htab hsz htt hK hA hZ E ls hl => ?_)
  have hx := S.1
  have hb := S.2.1
  have hl : lv_has ls 5 [(0, .ref q.1), (1, .int p0), (2, .int p1), (3, .int p2)] := hl
  refine lv_aload_n hx hb dL_transfer_0 rfl (lv_at hl 0 rfl) ?_
  refine lv_iload_n hx hb dL_transfer_1 rfl (lv_at hl 1 rfl) ?_
  refine lv_iload_n hx hb dL_transfer_2 rfl (lv_at hl 2 rfl) ?_
  refine lv_iload_n hx hb dL_transfer_3 rfl (lv_at hl 3 rfl) ?_
  have E := Ev.obN hne E
  refine y_reti (yrunV (As := [.int p0, .int p1, .int p2]) (rest := []) (q0 := 0) (n := 3) S hml hK (hZ.at E) (Cut.app E hA) (c_S_transfer l g hst q u σ p0 p1 p2 hu hI hC _ _) (gi_wsV ml_L_58 im_X6_transfer sl_X6_transfer in_X6 co_X6_transfer) ⟨rfl, by decide +kernel, by decide +kernel, by decide +kernel⟩ ⟨Nat.le_of_ble_eq_true rfl, Nat.le_of_ble_eq_true rfl⟩ rfl rfl rfl hl.1 rfl (Nat.le_of_ble_eq_true rfl) dL_transfer_4 ⟨Nat.le_of_ble_eq_true rfl, Nat.le_of_ble_eq_true rfl⟩) (Cut.app E hA) E (fun En ce q9 H locs hp E hce hcv hcl => ?_) (fun r1 u1 H locs hp E => ?_)
  · rcases hp with ⟨_, z⟩ | ⟨_, _, z⟩ | ⟨_, _, _, z⟩
    · exact absurd ⟨h0, h1⟩ z
    · exact absurd h2 z
    · exact absurd z hg
  · have hnx : Nx u (10, p0, p1, p2, 0) u1 := hp.2
    exact vx_ret (x_iret u1 S hr hlk hsz htt hK (Ev.nOb (σ := (fo1 (-1) (10, p0, p1, p2, 0) σ)) hnx.2.1 E) dL_transfer_7 ⟨hp.1, hnx⟩ rfl ⟨by show 0 + _ ≤ _; exact Nat.le_of_eq (Nat.zero_add _), by show 0 + _ ≤ _; exact Nat.le_of_eq (Nat.zero_add _)⟩ ⟨by show 0 + (eg (fo1 (-1) (10, p0, p1, p2, 0) σ) - eg σ + 3) ≤ 61; omega, by show 0 + (2 * ec (fo1 (-1) (10, p0, p1, p2, 0) σ) - 2 * ec σ + 815) ≤ 600005; omega⟩)
set_option maxHeartbeats 1000000 in
set_option maxRecDepth 100000 in
theorem c_L_pass (l : Launch) (g : Gm) (hst : l.stackTraces = false) (q : Fx) (u : SOB) (σ : Sg) (mm : Nat) {C M : Nat} (hu : OkU u) (hne : u.2.2.2.2 ≠ []) (hI : Inv C M σ) (hC : C + 1 ≤ 1000) (hm1 : 1 ≤ mm) (hm2 : mm ≤ 24) (hm6 : M + mm ≤ 600) (h0 : rgOK (nI mm) 1 24) (h6 : gs σ 0 + nI mm ≤ 600) : HXi (S := SOB) l g yL_pass cL_pass 3 .int [(0, 5, 6, 22), (0, 5, 10, 110)] ({ frames := 13, cells := 61, slots := 600005, locals := 1172 } : Room) [.ref q.1, .int (nI mm)] (OB g q u σ) (fun r u' => r = gs (fo1 (-1) (11, nI mm, 0, 0, 0) σ) 0 ∧ Nx u (11, nI mm, 0, 0, 0) u') (fun u' => OB g q u' (fo1 (-1) (11, nI mm, 0, 0, 0) σ)) (kxS σ (fo1 (-1) (11, nI mm, 0, 0, 0) σ)) := by
  have hI2 : Inv (C + 1) (M + isM (11, nI mm, 0, 0, 0)) (fo1 (-1) (11, nI mm, 0, 0, 0) σ) := (inv_fo1 (lo := -1) (v := (11, nI mm, 0, 0, 0)) hI hC (show ∃ m2 : Nat, nI mm = nI m2 ∧ 1 ≤ m2 ∧ m2 ≤ 24 ∧ M + m2 ≤ 600 from ⟨mm, rfl, hm1, hm2, hm6⟩)).1
  have hB := hI.en
  obtain ⟨hr1, hr2⟩ := ek_room (σ := σ) hI2.ev (Nat.le_trans hI2.en (by decide))
  intro sz tt
  refine ofH RL rfl (by decide +kernel) (Nat.le_of_ble_eq_true rfl) (fun p e s m args below meth c hargs S hml hr hlk htab hsz htt hK hA hZ E ls hl => ?_)
  have hx := S.1
  have hb := S.2.1
  have hl : lv_has ls 3 [(0, .ref q.1), (1, .int (nI mm))] := hl
  refine lv_aload_n hx hb dL_pass_0 rfl (lv_at hl 0 rfl) ?_
  refine lv_iload_n hx hb dL_pass_1 rfl (lv_at hl 1 rfl) ?_
  have E := Ev.obN hne E
  refine y_reti (yrunV (As := [.int (nI mm)]) (rest := []) (q0 := 0) (n := 1) S hml hK (hZ.at E) (Cut.app E hA) (c_S_pass l g hst q u σ mm hu hI hC hm1 hm2 _ _) (gi_wsV ml_L_107 im_X6_pass sl_X6_pass in_X6 co_X6_pass) ⟨rfl, by decide +kernel, by decide +kernel, by decide +kernel⟩ ⟨Nat.le_of_ble_eq_true rfl, Nat.le_of_ble_eq_true rfl⟩ rfl rfl rfl hl.1 rfl (Nat.le_of_ble_eq_true rfl) dL_pass_2 ⟨Nat.le_of_ble_eq_true rfl, Nat.le_of_ble_eq_true rfl⟩) (Cut.app E hA) E (fun En ce q9 H locs hp E hce hcv hcl => ?_) (fun r1 u1 H locs hp E => ?_)
  · rcases hp with ⟨_, z⟩ | ⟨_, z⟩
    · exact absurd h0 z
    · exact absurd h6 z
  · have hnx : Nx u (11, nI mm, 0, 0, 0) u1 := hp.2
    exact vx_ret (x_iret u1 S hr hlk hsz htt hK (Ev.nOb (σ := (fo1 (-1) (11, nI mm, 0, 0, 0) σ)) hnx.2.1 E) dL_pass_5 ⟨hp.1, hnx⟩ rfl ⟨by show 0 + _ ≤ _; exact Nat.le_of_eq (Nat.zero_add _), by show 0 + _ ≤ _; exact Nat.le_of_eq (Nat.zero_add _)⟩ ⟨by show 0 + (eg (fo1 (-1) (11, nI mm, 0, 0, 0) σ) - eg σ + 3) ≤ 61; omega, by show 0 + (2 * ec (fo1 (-1) (11, nI mm, 0, 0, 0) σ) - 2 * ec σ + 815) ≤ 600005; omega⟩)
