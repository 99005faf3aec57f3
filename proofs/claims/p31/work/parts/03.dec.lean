theorem dX0_init_0 : decode cX0_init 0 = .ok (.aload_n 0, 1) := by decide +kernel
theorem dX0_init_1 : decode cX0_init 1 = .ok (.invokespecial 1, 3) := by decide +kernel
theorem dX0_init_4 : decode cX0_init 4 = .ok (.aload_n 0, 1) := by decide +kernel
theorem dX0_init_5 : decode cX0_init 5 = .ok (.bipush 9, 2) := by decide +kernel
theorem dX0_init_7 : decode cX0_init 7 = .ok (.newarray .long, 2) := by decide +kernel
theorem dX0_init_9 : decode cX0_init 9 = .ok (.putfield 7, 3) := by decide +kernel
theorem dX0_init_12 : decode cX0_init 12 = .ok (.return_, 1) := by decide +kernel
theorem dX0_balanceWith_0 : decode cX0_balanceWith 0 = .ok (.aload_n 0, 1) := by decide +kernel
theorem dX0_balanceWith_1 : decode cX0_balanceWith 1 = .ok (.getfield 7, 3) := by decide +kernel
theorem dX0_balanceWith_4 : decode cX0_balanceWith 4 = .ok (.iconst 0, 1) := by decide +kernel
theorem dX0_balanceWith_5 : decode cX0_balanceWith 5 = .ok (.laload, 1) := by decide +kernel
theorem dX0_balanceWith_6 : decode cX0_balanceWith 6 = .ok (.aload_n 0, 1) := by decide +kernel
theorem dX0_balanceWith_7 : decode cX0_balanceWith 7 = .ok (.getfield 7, 3) := by decide +kernel
theorem dX0_balanceWith_10 : decode cX0_balanceWith 10 = .ok (.iconst 1, 1) := by decide +kernel
theorem dX0_balanceWith_11 : decode cX0_balanceWith 11 = .ok (.laload, 1) := by decide +kernel
theorem dX0_balanceWith_12 : decode cX0_balanceWith 12 = .ok (.ladd, 1) := by decide +kernel
theorem dX0_balanceWith_13 : decode cX0_balanceWith 13 = .ok (.aload_n 0, 1) := by decide +kernel
theorem dX0_balanceWith_14 : decode cX0_balanceWith 14 = .ok (.getfield 7, 3) := by decide +kernel
theorem dX0_balanceWith_17 : decode cX0_balanceWith 17 = .ok (.iconst 3, 1) := by decide +kernel
theorem dX0_balanceWith_18 : decode cX0_balanceWith 18 = .ok (.laload, 1) := by decide +kernel
theorem dX0_balanceWith_19 : decode cX0_balanceWith 19 = .ok (.ladd, 1) := by decide +kernel
theorem dX0_balanceWith_20 : decode cX0_balanceWith 20 = .ok (.aload_n 0, 1) := by decide +kernel
theorem dX0_balanceWith_21 : decode cX0_balanceWith 21 = .ok (.getfield 7, 3) := by decide +kernel
theorem dX0_balanceWith_24 : decode cX0_balanceWith 24 = .ok (.bipush 6, 2) := by decide +kernel
theorem dX0_balanceWith_26 : decode cX0_balanceWith 26 = .ok (.laload, 1) := by decide +kernel
theorem dX0_balanceWith_27 : decode cX0_balanceWith 27 = .ok (.ladd, 1) := by decide +kernel
theorem dX0_balanceWith_28 : decode cX0_balanceWith 28 = .ok (.lstore_n 3, 1) := by decide +kernel
theorem dX0_balanceWith_29 : decode cX0_balanceWith 29 = .ok (.aload_n 0, 1) := by decide +kernel
theorem dX0_balanceWith_30 : decode cX0_balanceWith 30 = .ok (.getfield 7, 3) := by decide +kernel
theorem dX0_balanceWith_33 : decode cX0_balanceWith 33 = .ok (.iconst 2, 1) := by decide +kernel
theorem dX0_balanceWith_34 : decode cX0_balanceWith 34 = .ok (.laload, 1) := by decide +kernel
theorem dX0_balanceWith_35 : decode cX0_balanceWith 35 = .ok (.aload_n 0, 1) := by decide +kernel
theorem dX0_balanceWith_36 : decode cX0_balanceWith 36 = .ok (.getfield 7, 3) := by decide +kernel
theorem dX0_balanceWith_39 : decode cX0_balanceWith 39 = .ok (.iconst 4, 1) := by decide +kernel
theorem dX0_balanceWith_40 : decode cX0_balanceWith 40 = .ok (.laload, 1) := by decide +kernel
theorem dX0_balanceWith_41 : decode cX0_balanceWith 41 = .ok (.ladd, 1) := by decide +kernel
theorem dX0_balanceWith_42 : decode cX0_balanceWith 42 = .ok (.aload_n 0, 1) := by decide +kernel
theorem dX0_balanceWith_43 : decode cX0_balanceWith 43 = .ok (.getfield 7, 3) := by decide +kernel
theorem dX0_balanceWith_46 : decode cX0_balanceWith 46 = .ok (.iconst 5, 1) := by decide +kernel
theorem dX0_balanceWith_47 : decode cX0_balanceWith 47 = .ok (.laload, 1) := by decide +kernel
theorem dX0_balanceWith_48 : decode cX0_balanceWith 48 = .ok (.ladd, 1) := by decide +kernel
theorem dX0_balanceWith_49 : decode cX0_balanceWith 49 = .ok (.aload_n 0, 1) := by decide +kernel
theorem dX0_balanceWith_50 : decode cX0_balanceWith 50 = .ok (.getfield 7, 3) := by decide +kernel
theorem dX0_balanceWith_53 : decode cX0_balanceWith 53 = .ok (.bipush 7, 2) := by decide +kernel
theorem dX0_balanceWith_55 : decode cX0_balanceWith 55 = .ok (.laload, 1) := by decide +kernel
theorem dX0_balanceWith_56 : decode cX0_balanceWith 56 = .ok (.ladd, 1) := by decide +kernel
theorem dX0_balanceWith_57 : decode cX0_balanceWith 57 = .ok (.lstore 5, 2) := by decide +kernel
theorem dX0_balanceWith_59 : decode cX0_balanceWith 59 = .ok (.lload_n 3, 1) := by decide +kernel
theorem dX0_balanceWith_60 : decode cX0_balanceWith 60 = .ok (.lload 5, 2) := by decide +kernel
theorem dX0_balanceWith_62 : decode cX0_balanceWith 62 = .ok (.lload_n 1, 1) := by decide +kernel
theorem dX0_balanceWith_63 : decode cX0_balanceWith 63 = .ok (.ladd, 1) := by decide +kernel
theorem dX0_balanceWith_64 : decode cX0_balanceWith 64 = .ok (.lcmp, 1) := by decide +kernel
theorem dX0_balanceWith_65 : decode cX0_balanceWith 65 = .ok (.ifCond .ne 7, 3) := by decide +kernel
theorem dX0_balanceWith_68 : decode cX0_balanceWith 68 = .ok (.iconst 1, 1) := by decide +kernel
theorem dX0_balanceWith_69 : decode cX0_balanceWith 69 = .ok (.goto 4, 3) := by decide +kernel
theorem dX0_balanceWith_72 : decode cX0_balanceWith 72 = .ok (.iconst 0, 1) := by decide +kernel
theorem dX0_balanceWith_73 : decode cX0_balanceWith 73 = .ok (.ireturn, 1) := by decide +kernel
theorem dX1_init_0 : decode cX1_init 0 = .ok (.aload_n 0, 1) := by decide +kernel
theorem dX1_init_1 : decode cX1_init 1 = .ok (.invokespecial 1, 3) := by decide +kernel
theorem dX1_init_4 : decode cX1_init 4 = .ok (.aload_n 0, 1) := by decide +kernel
theorem dX1_init_5 : decode cX1_init 5 = .ok (.iload_n 1, 1) := by decide +kernel
theorem dX1_init_6 : decode cX1_init 6 = .ok (.putfield 7, 3) := by decide +kernel
theorem dX1_init_9 : decode cX1_init 9 = .ok (.aload_n 0, 1) := by decide +kernel
theorem dX1_init_10 : decode cX1_init 10 = .ok (.iload_n 2, 1) := by decide +kernel
theorem dX1_init_11 : decode cX1_init 11 = .ok (.putfield 13, 3) := by decide +kernel
theorem dX1_init_14 : decode cX1_init 14 = .ok (.aload_n 0, 1) := by decide +kernel
theorem dX1_init_15 : decode cX1_init 15 = .ok (.iload_n 3, 1) := by decide +kernel
theorem dX1_init_16 : decode cX1_init 16 = .ok (.putfield 16, 3) := by decide +kernel
theorem dX1_init_19 : decode cX1_init 19 = .ok (.aload_n 0, 1) := by decide +kernel
theorem dX1_init_20 : decode cX1_init 20 = .ok (.iload 4, 2) := by decide +kernel
theorem dX1_init_22 : decode cX1_init 22 = .ok (.putfield 19, 3) := by decide +kernel
theorem dX1_init_25 : decode cX1_init 25 = .ok (.aload_n 0, 1) := by decide +kernel
theorem dX1_init_26 : decode cX1_init 26 = .ok (.iload 5, 2) := by decide +kernel
theorem dX1_init_28 : decode cX1_init 28 = .ok (.putfield 22, 3) := by decide +kernel
theorem dX1_init_31 : decode cX1_init 31 = .ok (.return_, 1) := by decide +kernel
theorem dX2_init_0 : decode cX2_init 0 = .ok (.aload_n 0, 1) := by decide +kernel
theorem dX2_init_1 : decode cX2_init 1 = .ok (.invokespecial 3, 3) := by decide +kernel
theorem dX2_init_4 : decode cX2_init 4 = .ok (.aload_n 0, 1) := by decide +kernel
theorem dX2_init_5 : decode cX2_init 5 = .ok (.bipush 16, 2) := by decide +kernel
theorem dX2_init_7 : decode cX2_init 7 = .ok (.newarray .int, 2) := by decide +kernel
theorem dX2_init_9 : decode cX2_init 9 = .ok (.putfield 9, 3) := by decide +kernel
theorem dX2_init_12 : decode cX2_init 12 = .ok (.aload_n 0, 1) := by decide +kernel
theorem dX2_init_13 : decode cX2_init 13 = .ok (.bipush 16, 2) := by decide +kernel
theorem dX2_init_15 : decode cX2_init 15 = .ok (.newarray .int, 2) := by decide +kernel
theorem dX2_init_17 : decode cX2_init 17 = .ok (.putfield 15, 3) := by decide +kernel
theorem dX2_init_20 : decode cX2_init 20 = .ok (.aload_n 0, 1) := by decide +kernel
theorem dX2_init_21 : decode cX2_init 21 = .ok (.bipush 16, 2) := by decide +kernel
theorem dX2_init_23 : decode cX2_init 23 = .ok (.newarray .int, 2) := by decide +kernel
theorem dX2_init_25 : decode cX2_init 25 = .ok (.putfield 18, 3) := by decide +kernel
theorem dX2_init_28 : decode cX2_init 28 = .ok (.aload_n 0, 1) := by decide +kernel
theorem dX2_init_29 : decode cX2_init 29 = .ok (.bipush 16, 2) := by decide +kernel
theorem dX2_init_31 : decode cX2_init 31 = .ok (.newarray .int, 2) := by decide +kernel
theorem dX2_init_33 : decode cX2_init 33 = .ok (.putfield 21, 3) := by decide +kernel
theorem dX2_init_36 : decode cX2_init 36 = .ok (.aload_n 0, 1) := by decide +kernel
theorem dX2_init_37 : decode cX2_init 37 = .ok (.getfield 15, 3) := by decide +kernel
theorem dX2_init_40 : decode cX2_init 40 = .ok (.bipush 10, 2) := by decide +kernel
theorem dX2_init_42 : decode cX2_init 42 = .ok (.invokestatic 24, 3) := by decide +kernel
theorem dX2_init_45 : decode cX2_init 45 = .ok (.return_, 1) := by decide +kernel
theorem dX2_height_0 : decode cX2_height 0 = .ok (.aload_n 0, 1) := by decide +kernel
theorem dX2_height_1 : decode cX2_height 1 = .ok (.getfield 15, 3) := by decide +kernel
theorem dX2_height_4 : decode cX2_height 4 = .ok (.iload_n 1, 1) := by decide +kernel
theorem dX2_height_5 : decode cX2_height 5 = .ok (.iaload, 1) := by decide +kernel
theorem dX2_height_6 : decode cX2_height 6 = .ok (.istore_n 2, 1) := by decide +kernel
theorem dX2_height_7 : decode cX2_height 7 = .ok (.iload_n 2, 1) := by decide +kernel
theorem dX2_height_8 : decode cX2_height 8 = .ok (.iconst 1, 1) := by decide +kernel
theorem dX2_height_9 : decode cX2_height 9 = .ok (.if_icmp .ge 12, 3) := by decide +kernel
theorem dX2_height_12 : decode cX2_height 12 = .ok (.aload_n 0, 1) := by decide +kernel
theorem dX2_height_13 : decode cX2_height 13 = .ok (.getfield 9, 3) := by decide +kernel
theorem dX2_height_16 : decode cX2_height 16 = .ok (.iload_n 1, 1) := by decide +kernel
theorem dX2_height_17 : decode cX2_height 17 = .ok (.iaload, 1) := by decide +kernel
theorem dX2_height_18 : decode cX2_height 18 = .ok (.goto 18, 3) := by decide +kernel
theorem dX2_height_21 : decode cX2_height 21 = .ok (.aload_n 0, 1) := by decide +kernel
theorem dX2_height_22 : decode cX2_height 22 = .ok (.getfield 9, 3) := by decide +kernel
theorem dX2_height_25 : decode cX2_height 25 = .ok (.iload_n 1, 1) := by decide +kernel
theorem dX2_height_26 : decode cX2_height 26 = .ok (.iaload, 1) := by decide +kernel
theorem dX2_height_27 : decode cX2_height 27 = .ok (.aload_n 0, 1) := by decide +kernel
theorem dX2_height_28 : decode cX2_height 28 = .ok (.getfield 18, 3) := by decide +kernel
theorem dX2_height_31 : decode cX2_height 31 = .ok (.iload_n 1, 1) := by decide +kernel
theorem dX2_height_32 : decode cX2_height 32 = .ok (.iaload, 1) := by decide +kernel
theorem dX2_height_33 : decode cX2_height 33 = .ok (.iload_n 2, 1) := by decide +kernel
theorem dX2_height_34 : decode cX2_height 34 = .ok (.idiv, 1) := by decide +kernel
theorem dX2_height_35 : decode cX2_height 35 = .ok (.iadd, 1) := by decide +kernel
theorem dX2_height_36 : decode cX2_height 36 = .ok (.ireturn, 1) := by decide +kernel
theorem dX2_takeOut_0 : decode cX2_takeOut 0 = .ok (.aload_n 0, 1) := by decide +kernel
theorem dX2_takeOut_1 : decode cX2_takeOut 1 = .ok (.getfield 18, 3) := by decide +kernel
theorem dX2_takeOut_4 : decode cX2_takeOut 4 = .ok (.iload_n 1, 1) := by decide +kernel
theorem dX2_takeOut_5 : decode cX2_takeOut 5 = .ok (.iaload, 1) := by decide +kernel
theorem dX2_takeOut_6 : decode cX2_takeOut 6 = .ok (.istore_n 3, 1) := by decide +kernel
theorem dX2_takeOut_7 : decode cX2_takeOut 7 = .ok (.iload_n 3, 1) := by decide +kernel
theorem dX2_takeOut_8 : decode cX2_takeOut 8 = .ok (.iconst 1, 1) := by decide +kernel
theorem dX2_takeOut_9 : decode cX2_takeOut 9 = .ok (.if_icmp .ge 5, 3) := by decide +kernel
theorem dX2_takeOut_12 : decode cX2_takeOut 12 = .ok (.iconst 0, 1) := by decide +kernel
theorem dX2_takeOut_13 : decode cX2_takeOut 13 = .ok (.ireturn, 1) := by decide +kernel
theorem dX2_takeOut_14 : decode cX2_takeOut 14 = .ok (.aload_n 0, 1) := by decide +kernel
theorem dX2_takeOut_15 : decode cX2_takeOut 15 = .ok (.getfield 21, 3) := by decide +kernel
theorem dX2_takeOut_18 : decode cX2_takeOut 18 = .ok (.iload_n 1, 1) := by decide +kernel
theorem dX2_takeOut_19 : decode cX2_takeOut 19 = .ok (.iaload, 1) := by decide +kernel
theorem dX2_takeOut_20 : decode cX2_takeOut 20 = .ok (.i2l, 1) := by decide +kernel
theorem dX2_takeOut_21 : decode cX2_takeOut 21 = .ok (.iload_n 2, 1) := by decide +kernel
theorem dX2_takeOut_22 : decode cX2_takeOut 22 = .ok (.i2l, 1) := by decide +kernel
theorem dX2_takeOut_23 : decode cX2_takeOut 23 = .ok (.lmul, 1) := by decide +kernel
theorem dX2_takeOut_24 : decode cX2_takeOut 24 = .ok (.iload_n 3, 1) := by decide +kernel
theorem dX2_takeOut_25 : decode cX2_takeOut 25 = .ok (.i2l, 1) := by decide +kernel
theorem dX2_takeOut_26 : decode cX2_takeOut 26 = .ok (.ldiv, 1) := by decide +kernel
theorem dX2_takeOut_27 : decode cX2_takeOut 27 = .ok (.l2i, 1) := by decide +kernel
theorem dX2_takeOut_28 : decode cX2_takeOut 28 = .ok (.istore 4, 2) := by decide +kernel
theorem dX2_takeOut_30 : decode cX2_takeOut 30 = .ok (.aload_n 0, 1) := by decide +kernel
theorem dX2_takeOut_31 : decode cX2_takeOut 31 = .ok (.getfield 18, 3) := by decide +kernel
theorem dX2_takeOut_34 : decode cX2_takeOut 34 = .ok (.iload_n 1, 1) := by decide +kernel
theorem dX2_takeOut_35 : decode cX2_takeOut 35 = .ok (.iload_n 3, 1) := by decide +kernel
theorem dX2_takeOut_36 : decode cX2_takeOut 36 = .ok (.iload_n 2, 1) := by decide +kernel
theorem dX2_takeOut_37 : decode cX2_takeOut 37 = .ok (.isub, 1) := by decide +kernel
theorem dX2_takeOut_38 : decode cX2_takeOut 38 = .ok (.iastore, 1) := by decide +kernel
theorem dX2_takeOut_39 : decode cX2_takeOut 39 = .ok (.aload_n 0, 1) := by decide +kernel
theorem dX2_takeOut_40 : decode cX2_takeOut 40 = .ok (.getfield 21, 3) := by decide +kernel
theorem dX2_takeOut_43 : decode cX2_takeOut 43 = .ok (.iload_n 1, 1) := by decide +kernel
theorem dX2_takeOut_44 : decode cX2_takeOut 44 = .ok (.dup2, 1) := by decide +kernel
theorem dX2_takeOut_45 : decode cX2_takeOut 45 = .ok (.iaload, 1) := by decide +kernel
theorem dX2_takeOut_46 : decode cX2_takeOut 46 = .ok (.iload 4, 2) := by decide +kernel
theorem dX2_takeOut_48 : decode cX2_takeOut 48 = .ok (.isub, 1) := by decide +kernel
theorem dX2_takeOut_49 : decode cX2_takeOut 49 = .ok (.iastore, 1) := by decide +kernel
theorem dX2_takeOut_50 : decode cX2_takeOut 50 = .ok (.iload 4, 2) := by decide +kernel
theorem dX2_takeOut_52 : decode cX2_takeOut 52 = .ok (.ireturn, 1) := by decide +kernel
theorem dX2_waterInAll_0 : decode cX2_waterInAll 0 = .ok (.lconst 0, 1) := by decide +kernel
theorem dX2_waterInAll_1 : decode cX2_waterInAll 1 = .ok (.lstore_n 1, 1) := by decide +kernel
theorem dX2_waterInAll_2 : decode cX2_waterInAll 2 = .ok (.iconst 0, 1) := by decide +kernel
theorem dX2_waterInAll_3 : decode cX2_waterInAll 3 = .ok (.istore_n 3, 1) := by decide +kernel
theorem dX2_waterInAll_4 : decode cX2_waterInAll 4 = .ok (.iload_n 3, 1) := by decide +kernel
theorem dX2_waterInAll_5 : decode cX2_waterInAll 5 = .ok (.bipush 16, 2) := by decide +kernel
theorem dX2_waterInAll_7 : decode cX2_waterInAll 7 = .ok (.if_icmp .ge 19, 3) := by decide +kernel
theorem dX2_waterInAll_10 : decode cX2_waterInAll 10 = .ok (.lload_n 1, 1) := by decide +kernel
theorem dX2_waterInAll_11 : decode cX2_waterInAll 11 = .ok (.aload_n 0, 1) := by decide +kernel
theorem dX2_waterInAll_12 : decode cX2_waterInAll 12 = .ok (.getfield 18, 3) := by decide +kernel
theorem dX2_waterInAll_15 : decode cX2_waterInAll 15 = .ok (.iload_n 3, 1) := by decide +kernel
theorem dX2_waterInAll_16 : decode cX2_waterInAll 16 = .ok (.iaload, 1) := by decide +kernel
theorem dX2_waterInAll_17 : decode cX2_waterInAll 17 = .ok (.i2l, 1) := by decide +kernel
theorem dX2_waterInAll_18 : decode cX2_waterInAll 18 = .ok (.ladd, 1) := by decide +kernel
theorem dX2_waterInAll_19 : decode cX2_waterInAll 19 = .ok (.lstore_n 1, 1) := by decide +kernel
theorem dX2_waterInAll_20 : decode cX2_waterInAll 20 = .ok (.iinc 3 1, 3) := by decide +kernel
theorem dX2_waterInAll_23 : decode cX2_waterInAll 23 = .ok (.goto (-19), 3) := by decide +kernel
theorem dX2_waterInAll_26 : decode cX2_waterInAll 26 = .ok (.lload_n 1, 1) := by decide +kernel
theorem dX2_waterInAll_27 : decode cX2_waterInAll 27 = .ok (.lreturn, 1) := by decide +kernel
theorem dX2_sameWater_0 : decode cX2_sameWater 0 = .ok (.iconst 0, 1) := by decide +kernel
theorem dX2_sameWater_1 : decode cX2_sameWater 1 = .ok (.istore_n 2, 1) := by decide +kernel
theorem dX2_sameWater_2 : decode cX2_sameWater 2 = .ok (.iload_n 2, 1) := by decide +kernel
theorem dX2_sameWater_3 : decode cX2_sameWater 3 = .ok (.bipush 16, 2) := by decide +kernel
theorem dX2_sameWater_5 : decode cX2_sameWater 5 = .ok (.if_icmp .ge 26, 3) := by decide +kernel
theorem dX2_sameWater_8 : decode cX2_sameWater 8 = .ok (.aload_n 0, 1) := by decide +kernel
theorem dX2_sameWater_9 : decode cX2_sameWater 9 = .ok (.getfield 18, 3) := by decide +kernel
theorem dX2_sameWater_12 : decode cX2_sameWater 12 = .ok (.iload_n 2, 1) := by decide +kernel
theorem dX2_sameWater_13 : decode cX2_sameWater 13 = .ok (.iaload, 1) := by decide +kernel
theorem dX2_sameWater_14 : decode cX2_sameWater 14 = .ok (.aload_n 1, 1) := by decide +kernel
theorem dX2_sameWater_15 : decode cX2_sameWater 15 = .ok (.getfield 18, 3) := by decide +kernel
theorem dX2_sameWater_18 : decode cX2_sameWater 18 = .ok (.iload_n 2, 1) := by decide +kernel
theorem dX2_sameWater_19 : decode cX2_sameWater 19 = .ok (.iaload, 1) := by decide +kernel
theorem dX2_sameWater_20 : decode cX2_sameWater 20 = .ok (.if_icmp .eq 5, 3) := by decide +kernel
theorem dX2_sameWater_23 : decode cX2_sameWater 23 = .ok (.iconst 0, 1) := by decide +kernel
theorem dX2_sameWater_24 : decode cX2_sameWater 24 = .ok (.ireturn, 1) := by decide +kernel
theorem dX2_sameWater_25 : decode cX2_sameWater 25 = .ok (.iinc 2 1, 3) := by decide +kernel
theorem dX2_sameWater_28 : decode cX2_sameWater 28 = .ok (.goto (-26), 3) := by decide +kernel
theorem dX2_sameWater_31 : decode cX2_sameWater 31 = .ok (.iconst 1, 1) := by decide +kernel
theorem dX2_sameWater_32 : decode cX2_sameWater 32 = .ok (.ireturn, 1) := by decide +kernel
theorem dX3_init_0 : decode cX3_init 0 = .ok (.aload_n 0, 1) := by decide +kernel
theorem dX3_init_1 : decode cX3_init 1 = .ok (.invokespecial 3, 3) := by decide +kernel
theorem dX3_init_4 : decode cX3_init 4 = .ok (.aload_n 0, 1) := by decide +kernel
theorem dX3_init_5 : decode cX3_init 5 = .ok (.bipush 8, 2) := by decide +kernel
theorem dX3_init_7 : decode cX3_init 7 = .ok (.newarray .int, 2) := by decide +kernel
theorem dX3_init_9 : decode cX3_init 9 = .ok (.putfield 9, 3) := by decide +kernel
theorem dX3_init_12 : decode cX3_init 12 = .ok (.aload_n 0, 1) := by decide +kernel
theorem dX3_init_13 : decode cX3_init 13 = .ok (.iconst 2, 1) := by decide +kernel
theorem dX3_init_14 : decode cX3_init 14 = .ok (.newarray .int, 2) := by decide +kernel
theorem dX3_init_16 : decode cX3_init 16 = .ok (.putfield 15, 3) := by decide +kernel
theorem dX3_init_19 : decode cX3_init 19 = .ok (.aload_n 0, 1) := by decide +kernel
theorem dX3_init_20 : decode cX3_init 20 = .ok (.bipush 8, 2) := by decide +kernel
theorem dX3_init_22 : decode cX3_init 22 = .ok (.newarray .int, 2) := by decide +kernel
theorem dX3_init_24 : decode cX3_init 24 = .ok (.putfield 18, 3) := by decide +kernel
theorem dX3_init_27 : decode cX3_init 27 = .ok (.aload_n 0, 1) := by decide +kernel
theorem dX3_init_28 : decode cX3_init 28 = .ok (.bipush 8, 2) := by decide +kernel
theorem dX3_init_30 : decode cX3_init 30 = .ok (.newarray .int, 2) := by decide +kernel
theorem dX3_init_32 : decode cX3_init 32 = .ok (.putfield 21, 3) := by decide +kernel
theorem dX3_init_35 : decode cX3_init 35 = .ok (.aload_n 0, 1) := by decide +kernel
theorem dX3_init_36 : decode cX3_init 36 = .ok (.bipush 8, 2) := by decide +kernel
theorem dX3_init_38 : decode cX3_init 38 = .ok (.newarray .int, 2) := by decide +kernel
theorem dX3_init_40 : decode cX3_init 40 = .ok (.putfield 24, 3) := by decide +kernel
theorem dX3_init_43 : decode cX3_init 43 = .ok (.aload_n 0, 1) := by decide +kernel
theorem dX3_init_44 : decode cX3_init 44 = .ok (.bipush 8, 2) := by decide +kernel
theorem dX3_init_46 : decode cX3_init 46 = .ok (.newarray .int, 2) := by decide +kernel
theorem dX3_init_48 : decode cX3_init 48 = .ok (.putfield 27, 3) := by decide +kernel
theorem dX3_init_51 : decode cX3_init 51 = .ok (.aload_n 0, 1) := by decide +kernel
theorem dX3_init_52 : decode cX3_init 52 = .ok (.getfield 9, 3) := by decide +kernel
theorem dX3_init_55 : decode cX3_init 55 = .ok (.bipush 100, 2) := by decide +kernel
theorem dX3_init_57 : decode cX3_init 57 = .ok (.invokestatic 30, 3) := by decide +kernel
theorem dX3_init_60 : decode cX3_init 60 = .ok (.aload_n 0, 1) := by decide +kernel
theorem dX3_init_61 : decode cX3_init 61 = .ok (.getfield 15, 3) := by decide +kernel
theorem dX3_init_64 : decode cX3_init 64 = .ok (.iconst 4, 1) := by decide +kernel
theorem dX3_init_65 : decode cX3_init 65 = .ok (.invokestatic 30, 3) := by decide +kernel
theorem dX3_init_68 : decode cX3_init 68 = .ok (.return_, 1) := by decide +kernel
theorem dX4_init_0 : decode cX4_init 0 = .ok (.aload_n 0, 1) := by decide +kernel
theorem dX4_init_1 : decode cX4_init 1 = .ok (.invokespecial 3, 3) := by decide +kernel
theorem dX4_init_4 : decode cX4_init 4 = .ok (.aload_n 0, 1) := by decide +kernel
theorem dX4_init_5 : decode cX4_init 5 = .ok (.bipush 6, 2) := by decide +kernel
theorem dX4_init_7 : decode cX4_init 7 = .ok (.newarray .int, 2) := by decide +kernel
theorem dX4_init_9 : decode cX4_init 9 = .ok (.putfield 9, 3) := by decide +kernel
theorem dX4_init_12 : decode cX4_init 12 = .ok (.aload_n 0, 1) := by decide +kernel
theorem dX4_init_13 : decode cX4_init 13 = .ok (.bipush 6, 2) := by decide +kernel
theorem dX4_init_15 : decode cX4_init 15 = .ok (.newarray .int, 2) := by decide +kernel
theorem dX4_init_17 : decode cX4_init 17 = .ok (.putfield 15, 3) := by decide +kernel
theorem dX4_init_20 : decode cX4_init 20 = .ok (.aload_n 0, 1) := by decide +kernel
theorem dX4_init_21 : decode cX4_init 21 = .ok (.bipush 6, 2) := by decide +kernel
theorem dX4_init_23 : decode cX4_init 23 = .ok (.newarray .int, 2) := by decide +kernel
theorem dX4_init_25 : decode cX4_init 25 = .ok (.putfield 18, 3) := by decide +kernel
theorem dX4_init_28 : decode cX4_init 28 = .ok (.aload_n 0, 1) := by decide +kernel
theorem dX4_init_29 : decode cX4_init 29 = .ok (.bipush 6, 2) := by decide +kernel
theorem dX4_init_31 : decode cX4_init 31 = .ok (.newarray .int, 2) := by decide +kernel
theorem dX4_init_33 : decode cX4_init 33 = .ok (.putfield 21, 3) := by decide +kernel
theorem dX4_init_36 : decode cX4_init 36 = .ok (.aload_n 0, 1) := by decide +kernel
theorem dX4_init_37 : decode cX4_init 37 = .ok (.bipush 6, 2) := by decide +kernel
theorem dX4_init_39 : decode cX4_init 39 = .ok (.newarray .int, 2) := by decide +kernel
theorem dX4_init_41 : decode cX4_init 41 = .ok (.putfield 24, 3) := by decide +kernel
theorem dX4_init_44 : decode cX4_init 44 = .ok (.aload_n 0, 1) := by decide +kernel
theorem dX4_init_45 : decode cX4_init 45 = .ok (.bipush 6, 2) := by decide +kernel
theorem dX4_init_47 : decode cX4_init 47 = .ok (.newarray .long, 2) := by decide +kernel
theorem dX4_init_49 : decode cX4_init 49 = .ok (.putfield 27, 3) := by decide +kernel
theorem dX4_init_52 : decode cX4_init 52 = .ok (.aload_n 0, 1) := by decide +kernel
theorem dX4_init_53 : decode cX4_init 53 = .ok (.bipush 6, 2) := by decide +kernel
theorem dX4_init_55 : decode cX4_init 55 = .ok (.newarray .boolean, 2) := by decide +kernel
theorem dX4_init_57 : decode cX4_init 57 = .ok (.putfield 31, 3) := by decide +kernel
theorem dX4_init_60 : decode cX4_init 60 = .ok (.aload_n 0, 1) := by decide +kernel
theorem dX4_init_61 : decode cX4_init 61 = .ok (.bipush 6, 2) := by decide +kernel
theorem dX4_init_63 : decode cX4_init 63 = .ok (.newarray .int, 2) := by decide +kernel
theorem dX4_init_65 : decode cX4_init 65 = .ok (.putfield 35, 3) := by decide +kernel
theorem dX4_init_68 : decode cX4_init 68 = .ok (.aload_n 0, 1) := by decide +kernel
theorem dX4_init_69 : decode cX4_init 69 = .ok (.bipush 6, 2) := by decide +kernel
theorem dX4_init_71 : decode cX4_init 71 = .ok (.newarray .int, 2) := by decide +kernel
theorem dX4_init_73 : decode cX4_init 73 = .ok (.putfield 38, 3) := by decide +kernel
theorem dX4_init_76 : decode cX4_init 76 = .ok (.aload_n 0, 1) := by decide +kernel
theorem dX4_init_77 : decode cX4_init 77 = .ok (.bipush 6, 2) := by decide +kernel
theorem dX4_init_79 : decode cX4_init 79 = .ok (.newarray .int, 2) := by decide +kernel
theorem dX4_init_81 : decode cX4_init 81 = .ok (.putfield 41, 3) := by decide +kernel
theorem dX4_init_84 : decode cX4_init 84 = .ok (.return_, 1) := by decide +kernel
theorem dX4_add_0 : decode cX4_add 0 = .ok (.aload_n 0, 1) := by decide +kernel
theorem dX4_add_1 : decode cX4_add 1 = .ok (.getfield 44, 3) := by decide +kernel
theorem dX4_add_4 : decode cX4_add 4 = .ok (.bipush 6, 2) := by decide +kernel
theorem dX4_add_6 : decode cX4_add 6 = .ok (.if_icmp .lt 4, 3) := by decide +kernel
theorem dX4_add_9 : decode cX4_add 9 = .ok (.return_, 1) := by decide +kernel
theorem dX4_add_10 : decode cX4_add 10 = .ok (.aload_n 0, 1) := by decide +kernel
theorem dX4_add_11 : decode cX4_add 11 = .ok (.getfield 9, 3) := by decide +kernel
theorem dX4_add_14 : decode cX4_add 14 = .ok (.aload_n 0, 1) := by decide +kernel
theorem dX4_add_15 : decode cX4_add 15 = .ok (.getfield 44, 3) := by decide +kernel
theorem dX4_add_18 : decode cX4_add 18 = .ok (.iload_n 1, 1) := by decide +kernel
theorem dX4_add_19 : decode cX4_add 19 = .ok (.iastore, 1) := by decide +kernel
theorem dX4_add_20 : decode cX4_add 20 = .ok (.aload_n 0, 1) := by decide +kernel
theorem dX4_add_21 : decode cX4_add 21 = .ok (.getfield 15, 3) := by decide +kernel
theorem dX4_add_24 : decode cX4_add 24 = .ok (.aload_n 0, 1) := by decide +kernel
theorem dX4_add_25 : decode cX4_add 25 = .ok (.getfield 44, 3) := by decide +kernel
theorem dX4_add_28 : decode cX4_add 28 = .ok (.iload_n 2, 1) := by decide +kernel
theorem dX4_add_29 : decode cX4_add 29 = .ok (.iastore, 1) := by decide +kernel
theorem dX4_add_30 : decode cX4_add 30 = .ok (.aload_n 0, 1) := by decide +kernel
theorem dX4_add_31 : decode cX4_add 31 = .ok (.getfield 18, 3) := by decide +kernel
theorem dX4_add_34 : decode cX4_add 34 = .ok (.aload_n 0, 1) := by decide +kernel
theorem dX4_add_35 : decode cX4_add 35 = .ok (.getfield 44, 3) := by decide +kernel
theorem dX4_add_38 : decode cX4_add 38 = .ok (.iload_n 3, 1) := by decide +kernel
theorem dX4_add_39 : decode cX4_add 39 = .ok (.iastore, 1) := by decide +kernel
theorem dX4_add_40 : decode cX4_add 40 = .ok (.aload_n 0, 1) := by decide +kernel
theorem dX4_add_41 : decode cX4_add 41 = .ok (.getfield 44, 3) := by decide +kernel
theorem dX4_add_44 : decode cX4_add 44 = .ok (.istore 4, 2) := by decide +kernel
theorem dX4_add_46 : decode cX4_add 46 = .ok (.iload 4, 2) := by decide +kernel
theorem dX4_add_48 : decode cX4_add 48 = .ok (.ifCond .le 43, 3) := by decide +kernel
theorem dX4_add_51 : decode cX4_add 51 = .ok (.aload_n 0, 1) := by decide +kernel
theorem dX4_add_52 : decode cX4_add 52 = .ok (.getfield 15, 3) := by decide +kernel
theorem dX4_add_55 : decode cX4_add 55 = .ok (.aload_n 0, 1) := by decide +kernel
theorem dX4_add_56 : decode cX4_add 56 = .ok (.getfield 41, 3) := by decide +kernel
theorem dX4_add_59 : decode cX4_add 59 = .ok (.iload 4, 2) := by decide +kernel
theorem dX4_add_61 : decode cX4_add 61 = .ok (.iconst 1, 1) := by decide +kernel
theorem dX4_add_62 : decode cX4_add 62 = .ok (.isub, 1) := by decide +kernel
theorem dX4_add_63 : decode cX4_add 63 = .ok (.iaload, 1) := by decide +kernel
theorem dX4_add_64 : decode cX4_add 64 = .ok (.iaload, 1) := by decide +kernel
theorem dX4_add_65 : decode cX4_add 65 = .ok (.iload_n 2, 1) := by decide +kernel
theorem dX4_add_66 : decode cX4_add 66 = .ok (.if_icmp .le 25, 3) := by decide +kernel
theorem dX4_add_69 : decode cX4_add 69 = .ok (.aload_n 0, 1) := by decide +kernel
theorem dX4_add_70 : decode cX4_add 70 = .ok (.getfield 41, 3) := by decide +kernel
theorem dX4_add_73 : decode cX4_add 73 = .ok (.iload 4, 2) := by decide +kernel
theorem dX4_add_75 : decode cX4_add 75 = .ok (.aload_n 0, 1) := by decide +kernel
theorem dX4_add_76 : decode cX4_add 76 = .ok (.getfield 41, 3) := by decide +kernel
theorem dX4_add_79 : decode cX4_add 79 = .ok (.iload 4, 2) := by decide +kernel
theorem dX4_add_81 : decode cX4_add 81 = .ok (.iconst 1, 1) := by decide +kernel
theorem dX4_add_82 : decode cX4_add 82 = .ok (.isub, 1) := by decide +kernel
theorem dX4_add_83 : decode cX4_add 83 = .ok (.iaload, 1) := by decide +kernel
theorem dX4_add_84 : decode cX4_add 84 = .ok (.iastore, 1) := by decide +kernel
theorem dX4_add_85 : decode cX4_add 85 = .ok (.iinc 4 (-1), 3) := by decide +kernel
theorem dX4_add_88 : decode cX4_add 88 = .ok (.goto (-42), 3) := by decide +kernel
theorem dX4_add_91 : decode cX4_add 91 = .ok (.aload_n 0, 1) := by decide +kernel
theorem dX4_add_92 : decode cX4_add 92 = .ok (.getfield 41, 3) := by decide +kernel
theorem dX4_add_95 : decode cX4_add 95 = .ok (.iload 4, 2) := by decide +kernel
theorem dX4_add_97 : decode cX4_add 97 = .ok (.aload_n 0, 1) := by decide +kernel
theorem dX4_add_98 : decode cX4_add 98 = .ok (.getfield 44, 3) := by decide +kernel
theorem dX4_add_101 : decode cX4_add 101 = .ok (.iastore, 1) := by decide +kernel
theorem dX4_add_102 : decode cX4_add 102 = .ok (.aload_n 0, 1) := by decide +kernel
theorem dX4_add_103 : decode cX4_add 103 = .ok (.dup, 1) := by decide +kernel
theorem dX4_add_104 : decode cX4_add 104 = .ok (.getfield 44, 3) := by decide +kernel
theorem dX4_add_107 : decode cX4_add 107 = .ok (.iconst 1, 1) := by decide +kernel
theorem dX4_add_108 : decode cX4_add 108 = .ok (.iadd, 1) := by decide +kernel
theorem dX4_add_109 : decode cX4_add 109 = .ok (.putfield 44, 3) := by decide +kernel
theorem dX4_add_112 : decode cX4_add 112 = .ok (.return_, 1) := by decide +kernel
theorem dX4_canGive_0 : decode cX4_canGive 0 = .ok (.iload_n 1, 1) := by decide +kernel
theorem dX4_canGive_1 : decode cX4_canGive 1 = .ok (.iload_n 2, 1) := by decide +kernel
theorem dX4_canGive_2 : decode cX4_canGive 2 = .ok (.if_icmp .eq 31, 3) := by decide +kernel
theorem dX4_canGive_5 : decode cX4_canGive 5 = .ok (.aload_n 0, 1) := by decide +kernel
theorem dX4_canGive_6 : decode cX4_canGive 6 = .ok (.getfield 18, 3) := by decide +kernel
theorem dX4_canGive_9 : decode cX4_canGive 9 = .ok (.iload_n 1, 1) := by decide +kernel
theorem dX4_canGive_10 : decode cX4_canGive 10 = .ok (.iaload, 1) := by decide +kernel
theorem dX4_canGive_11 : decode cX4_canGive 11 = .ok (.iload_n 3, 1) := by decide +kernel
theorem dX4_canGive_12 : decode cX4_canGive 12 = .ok (.if_icmp .lt 21, 3) := by decide +kernel
theorem dX4_canGive_15 : decode cX4_canGive 15 = .ok (.aload_n 0, 1) := by decide +kernel
theorem dX4_canGive_16 : decode cX4_canGive 16 = .ok (.getfield 18, 3) := by decide +kernel
theorem dX4_canGive_19 : decode cX4_canGive 19 = .ok (.iload_n 2, 1) := by decide +kernel
theorem dX4_canGive_20 : decode cX4_canGive 20 = .ok (.iaload, 1) := by decide +kernel
theorem dX4_canGive_21 : decode cX4_canGive 21 = .ok (.iload_n 3, 1) := by decide +kernel
theorem dX4_canGive_22 : decode cX4_canGive 22 = .ok (.iadd, 1) := by decide +kernel
theorem dX4_canGive_23 : decode cX4_canGive 23 = .ok (.sipush 999, 3) := by decide +kernel
theorem dX4_canGive_26 : decode cX4_canGive 26 = .ok (.if_icmp .gt 7, 3) := by decide +kernel
theorem dX4_canGive_29 : decode cX4_canGive 29 = .ok (.iconst 1, 1) := by decide +kernel
theorem dX4_canGive_30 : decode cX4_canGive 30 = .ok (.goto 4, 3) := by decide +kernel
theorem dX4_canGive_33 : decode cX4_canGive 33 = .ok (.iconst 0, 1) := by decide +kernel
theorem dX4_canGive_34 : decode cX4_canGive 34 = .ok (.ireturn, 1) := by decide +kernel
theorem dX4_give_0 : decode cX4_give 0 = .ok (.aload_n 0, 1) := by decide +kernel
theorem dX4_give_1 : decode cX4_give 1 = .ok (.getfield 18, 3) := by decide +kernel
theorem dX4_give_4 : decode cX4_give 4 = .ok (.iload_n 1, 1) := by decide +kernel
theorem dX4_give_5 : decode cX4_give 5 = .ok (.dup2, 1) := by decide +kernel
theorem dX4_give_6 : decode cX4_give 6 = .ok (.iaload, 1) := by decide +kernel
theorem dX4_give_7 : decode cX4_give 7 = .ok (.iload_n 3, 1) := by decide +kernel
theorem dX4_give_8 : decode cX4_give 8 = .ok (.isub, 1) := by decide +kernel
theorem dX4_give_9 : decode cX4_give 9 = .ok (.iastore, 1) := by decide +kernel
theorem dX4_give_10 : decode cX4_give 10 = .ok (.aload_n 0, 1) := by decide +kernel
theorem dX4_give_11 : decode cX4_give 11 = .ok (.getfield 18, 3) := by decide +kernel
theorem dX4_give_14 : decode cX4_give 14 = .ok (.iload_n 2, 1) := by decide +kernel
theorem dX4_give_15 : decode cX4_give 15 = .ok (.dup2, 1) := by decide +kernel
theorem dX4_give_16 : decode cX4_give 16 = .ok (.iaload, 1) := by decide +kernel
theorem dX4_give_17 : decode cX4_give 17 = .ok (.iload_n 3, 1) := by decide +kernel
theorem dX4_give_18 : decode cX4_give 18 = .ok (.iadd, 1) := by decide +kernel
theorem dX4_give_19 : decode cX4_give 19 = .ok (.iastore, 1) := by decide +kernel
theorem dX4_give_20 : decode cX4_give 20 = .ok (.aload_n 0, 1) := by decide +kernel
theorem dX4_give_21 : decode cX4_give 21 = .ok (.getfield 38, 3) := by decide +kernel
theorem dX4_give_24 : decode cX4_give 24 = .ok (.iload_n 1, 1) := by decide +kernel
theorem dX4_give_25 : decode cX4_give 25 = .ok (.dup2, 1) := by decide +kernel
theorem dX4_give_26 : decode cX4_give 26 = .ok (.iaload, 1) := by decide +kernel
theorem dX4_give_27 : decode cX4_give 27 = .ok (.iload_n 3, 1) := by decide +kernel
theorem dX4_give_28 : decode cX4_give 28 = .ok (.iadd, 1) := by decide +kernel
theorem dX4_give_29 : decode cX4_give 29 = .ok (.iastore, 1) := by decide +kernel
theorem dX4_give_30 : decode cX4_give 30 = .ok (.return_, 1) := by decide +kernel
theorem dX4_wanted_0 : decode cX4_wanted 0 = .ok (.aload_n 0, 1) := by decide +kernel
theorem dX4_wanted_1 : decode cX4_wanted 1 = .ok (.getfield 18, 3) := by decide +kernel
theorem dX4_wanted_4 : decode cX4_wanted 4 = .ok (.iload_n 1, 1) := by decide +kernel
theorem dX4_wanted_5 : decode cX4_wanted 5 = .ok (.iaload, 1) := by decide +kernel
theorem dX4_wanted_6 : decode cX4_wanted 6 = .ok (.aload_n 0, 1) := by decide +kernel
theorem dX4_wanted_7 : decode cX4_wanted 7 = .ok (.getfield 24, 3) := by decide +kernel
theorem dX4_wanted_10 : decode cX4_wanted 10 = .ok (.iload_n 1, 1) := by decide +kernel
theorem dX4_wanted_11 : decode cX4_wanted 11 = .ok (.iaload, 1) := by decide +kernel
theorem dX4_wanted_12 : decode cX4_wanted 12 = .ok (.isub, 1) := by decide +kernel
theorem dX4_wanted_13 : decode cX4_wanted 13 = .ok (.istore_n 2, 1) := by decide +kernel
theorem dX4_wanted_14 : decode cX4_wanted 14 = .ok (.iconst 0, 1) := by decide +kernel
theorem dX4_wanted_15 : decode cX4_wanted 15 = .ok (.aload_n 0, 1) := by decide +kernel
theorem dX4_wanted_16 : decode cX4_wanted 16 = .ok (.getfield 21, 3) := by decide +kernel
theorem dX4_wanted_19 : decode cX4_wanted 19 = .ok (.iload_n 1, 1) := by decide +kernel
theorem dX4_wanted_20 : decode cX4_wanted 20 = .ok (.iaload, 1) := by decide +kernel
theorem dX4_wanted_21 : decode cX4_wanted 21 = .ok (.iload_n 2, 1) := by decide +kernel
theorem dX4_wanted_22 : decode cX4_wanted 22 = .ok (.invokestatic 48, 3) := by decide +kernel
theorem dX4_wanted_25 : decode cX4_wanted 25 = .ok (.invokestatic 54, 3) := by decide +kernel
theorem dX4_wanted_28 : decode cX4_wanted 28 = .ok (.ireturn, 1) := by decide +kernel
theorem dX4_shutYounger_0 : decode cX4_shutYounger 0 = .ok (.aload_n 0, 1) := by decide +kernel
theorem dX4_shutYounger_1 : decode cX4_shutYounger 1 = .ok (.getfield 9, 3) := by decide +kernel
theorem dX4_shutYounger_4 : decode cX4_shutYounger 4 = .ok (.aload_n 0, 1) := by decide +kernel
theorem dX4_shutYounger_5 : decode cX4_shutYounger 5 = .ok (.getfield 41, 3) := by decide +kernel
theorem dX4_shutYounger_8 : decode cX4_shutYounger 8 = .ok (.iload_n 1, 1) := by decide +kernel
theorem dX4_shutYounger_9 : decode cX4_shutYounger 9 = .ok (.iaload, 1) := by decide +kernel
theorem dX4_shutYounger_10 : decode cX4_shutYounger 10 = .ok (.iaload, 1) := by decide +kernel
theorem dX4_shutYounger_11 : decode cX4_shutYounger 11 = .ok (.istore_n 2, 1) := by decide +kernel
theorem dX4_shutYounger_12 : decode cX4_shutYounger 12 = .ok (.iload_n 1, 1) := by decide +kernel
theorem dX4_shutYounger_13 : decode cX4_shutYounger 13 = .ok (.iconst 1, 1) := by decide +kernel
theorem dX4_shutYounger_14 : decode cX4_shutYounger 14 = .ok (.iadd, 1) := by decide +kernel
theorem dX4_shutYounger_15 : decode cX4_shutYounger 15 = .ok (.istore_n 3, 1) := by decide +kernel
theorem dX4_shutYounger_16 : decode cX4_shutYounger 16 = .ok (.iload_n 3, 1) := by decide +kernel
theorem dX4_shutYounger_17 : decode cX4_shutYounger 17 = .ok (.aload_n 0, 1) := by decide +kernel
theorem dX4_shutYounger_18 : decode cX4_shutYounger 18 = .ok (.getfield 44, 3) := by decide +kernel
theorem dX4_shutYounger_21 : decode cX4_shutYounger 21 = .ok (.if_icmp .ge 70, 3) := by decide +kernel
theorem dX4_shutYounger_24 : decode cX4_shutYounger 24 = .ok (.aload_n 0, 1) := by decide +kernel
theorem dX4_shutYounger_25 : decode cX4_shutYounger 25 = .ok (.getfield 41, 3) := by decide +kernel
theorem dX4_shutYounger_28 : decode cX4_shutYounger 28 = .ok (.iload_n 3, 1) := by decide +kernel
theorem dX4_shutYounger_29 : decode cX4_shutYounger 29 = .ok (.iaload, 1) := by decide +kernel
theorem dX4_shutYounger_30 : decode cX4_shutYounger 30 = .ok (.istore 4, 2) := by decide +kernel
theorem dX4_shutYounger_32 : decode cX4_shutYounger 32 = .ok (.aload_n 0, 1) := by decide +kernel
theorem dX4_shutYounger_33 : decode cX4_shutYounger 33 = .ok (.getfield 9, 3) := by decide +kernel
theorem dX4_shutYounger_36 : decode cX4_shutYounger 36 = .ok (.iload 4, 2) := by decide +kernel
theorem dX4_shutYounger_38 : decode cX4_shutYounger 38 = .ok (.iaload, 1) := by decide +kernel
theorem dX4_shutYounger_39 : decode cX4_shutYounger 39 = .ok (.bipush 8, 2) := by decide +kernel
theorem dX4_shutYounger_41 : decode cX4_shutYounger 41 = .ok (.idiv, 1) := by decide +kernel
theorem dX4_shutYounger_42 : decode cX4_shutYounger 42 = .ok (.iload_n 2, 1) := by decide +kernel
theorem dX4_shutYounger_43 : decode cX4_shutYounger 43 = .ok (.bipush 8, 2) := by decide +kernel
theorem dX4_shutYounger_45 : decode cX4_shutYounger 45 = .ok (.idiv, 1) := by decide +kernel
theorem dX4_shutYounger_46 : decode cX4_shutYounger 46 = .ok (.if_icmp .ne 7, 3) := by decide +kernel
theorem dX4_shutYounger_49 : decode cX4_shutYounger 49 = .ok (.iconst 1, 1) := by decide +kernel
theorem dX4_shutYounger_50 : decode cX4_shutYounger 50 = .ok (.goto 4, 3) := by decide +kernel
theorem dX4_shutYounger_53 : decode cX4_shutYounger 53 = .ok (.iconst 0, 1) := by decide +kernel
theorem dX4_shutYounger_54 : decode cX4_shutYounger 54 = .ok (.istore 5, 2) := by decide +kernel
theorem dX4_shutYounger_56 : decode cX4_shutYounger 56 = .ok (.iload 5, 2) := by decide +kernel
theorem dX4_shutYounger_58 : decode cX4_shutYounger 58 = .ok (.ifCond .eq 27, 3) := by decide +kernel
theorem dX4_shutYounger_61 : decode cX4_shutYounger 61 = .ok (.aload_n 0, 1) := by decide +kernel
theorem dX4_shutYounger_62 : decode cX4_shutYounger 62 = .ok (.getfield 9, 3) := by decide +kernel
theorem dX4_shutYounger_65 : decode cX4_shutYounger 65 = .ok (.iload 4, 2) := by decide +kernel
theorem dX4_shutYounger_67 : decode cX4_shutYounger 67 = .ok (.iaload, 1) := by decide +kernel
theorem dX4_shutYounger_68 : decode cX4_shutYounger 68 = .ok (.iload_n 2, 1) := by decide +kernel
theorem dX4_shutYounger_69 : decode cX4_shutYounger 69 = .ok (.isub, 1) := by decide +kernel
theorem dX4_shutYounger_70 : decode cX4_shutYounger 70 = .ok (.invokestatic 57, 3) := by decide +kernel
theorem dX4_shutYounger_73 : decode cX4_shutYounger 73 = .ok (.iconst 2, 1) := by decide +kernel
theorem dX4_shutYounger_74 : decode cX4_shutYounger 74 = .ok (.if_icmp .gt 11, 3) := by decide +kernel
theorem dX4_shutYounger_77 : decode cX4_shutYounger 77 = .ok (.aload_n 0, 1) := by decide +kernel
theorem dX4_shutYounger_78 : decode cX4_shutYounger 78 = .ok (.getfield 31, 3) := by decide +kernel
theorem dX4_shutYounger_81 : decode cX4_shutYounger 81 = .ok (.iload 4, 2) := by decide +kernel
theorem dX4_shutYounger_83 : decode cX4_shutYounger 83 = .ok (.iconst 1, 1) := by decide +kernel
theorem dX4_shutYounger_84 : decode cX4_shutYounger 84 = .ok (.bastore, 1) := by decide +kernel
theorem dX4_shutYounger_85 : decode cX4_shutYounger 85 = .ok (.iinc 3 1, 3) := by decide +kernel
theorem dX4_shutYounger_88 : decode cX4_shutYounger 88 = .ok (.goto (-72), 3) := by decide +kernel
theorem dX4_shutYounger_91 : decode cX4_shutYounger 91 = .ok (.return_, 1) := by decide +kernel
theorem dX4_forfeits_0 : decode cX4_forfeits 0 = .ok (.aload_n 0, 1) := by decide +kernel
theorem dX4_forfeits_1 : decode cX4_forfeits 1 = .ok (.getfield 24, 3) := by decide +kernel
theorem dX4_forfeits_4 : decode cX4_forfeits 4 = .ok (.iload_n 1, 1) := by decide +kernel
theorem dX4_forfeits_5 : decode cX4_forfeits 5 = .ok (.iaload, 1) := by decide +kernel
theorem dX4_forfeits_6 : decode cX4_forfeits 6 = .ok (.ifCond .ne 16, 3) := by decide +kernel
theorem dX4_forfeits_9 : decode cX4_forfeits 9 = .ok (.aload_n 0, 1) := by decide +kernel
theorem dX4_forfeits_10 : decode cX4_forfeits 10 = .ok (.getfield 21, 3) := by decide +kernel
theorem dX4_forfeits_13 : decode cX4_forfeits 13 = .ok (.iload_n 1, 1) := by decide +kernel
theorem dX4_forfeits_14 : decode cX4_forfeits 14 = .ok (.iaload, 1) := by decide +kernel
theorem dX4_forfeits_15 : decode cX4_forfeits 15 = .ok (.ifCond .le 7, 3) := by decide +kernel
theorem dX4_forfeits_18 : decode cX4_forfeits 18 = .ok (.iconst 1, 1) := by decide +kernel
theorem dX4_forfeits_19 : decode cX4_forfeits 19 = .ok (.goto 4, 3) := by decide +kernel
theorem dX4_forfeits_22 : decode cX4_forfeits 22 = .ok (.iconst 0, 1) := by decide +kernel
theorem dX4_forfeits_23 : decode cX4_forfeits 23 = .ok (.istore_n 2, 1) := by decide +kernel
theorem dX4_forfeits_24 : decode cX4_forfeits 24 = .ok (.aload_n 0, 1) := by decide +kernel
theorem dX4_forfeits_25 : decode cX4_forfeits 25 = .ok (.getfield 35, 3) := by decide +kernel
theorem dX4_forfeits_28 : decode cX4_forfeits 28 = .ok (.iload_n 1, 1) := by decide +kernel
theorem dX4_forfeits_29 : decode cX4_forfeits 29 = .ok (.iload_n 2, 1) := by decide +kernel
theorem dX4_forfeits_30 : decode cX4_forfeits 30 = .ok (.ifCond .eq 14, 3) := by decide +kernel
theorem dX4_forfeits_33 : decode cX4_forfeits 33 = .ok (.aload_n 0, 1) := by decide +kernel
theorem dX4_forfeits_34 : decode cX4_forfeits 34 = .ok (.getfield 35, 3) := by decide +kernel
theorem dX4_forfeits_37 : decode cX4_forfeits 37 = .ok (.iload_n 1, 1) := by decide +kernel
theorem dX4_forfeits_38 : decode cX4_forfeits 38 = .ok (.iaload, 1) := by decide +kernel
theorem dX4_forfeits_39 : decode cX4_forfeits 39 = .ok (.iconst 1, 1) := by decide +kernel
theorem dX4_forfeits_40 : decode cX4_forfeits 40 = .ok (.iadd, 1) := by decide +kernel
theorem dX4_forfeits_41 : decode cX4_forfeits 41 = .ok (.goto 4, 3) := by decide +kernel
theorem dX4_forfeits_44 : decode cX4_forfeits 44 = .ok (.iconst 0, 1) := by decide +kernel
theorem dX4_forfeits_45 : decode cX4_forfeits 45 = .ok (.iastore, 1) := by decide +kernel
theorem dX4_forfeits_46 : decode cX4_forfeits 46 = .ok (.aload_n 0, 1) := by decide +kernel
theorem dX4_forfeits_47 : decode cX4_forfeits 47 = .ok (.getfield 35, 3) := by decide +kernel
theorem dX4_forfeits_50 : decode cX4_forfeits 50 = .ok (.iload_n 1, 1) := by decide +kernel
theorem dX4_forfeits_51 : decode cX4_forfeits 51 = .ok (.iaload, 1) := by decide +kernel
theorem dX4_forfeits_52 : decode cX4_forfeits 52 = .ok (.iconst 3, 1) := by decide +kernel
theorem dX4_forfeits_53 : decode cX4_forfeits 53 = .ok (.if_icmp .lt 12, 3) := by decide +kernel
theorem dX4_forfeits_56 : decode cX4_forfeits 56 = .ok (.aload_n 0, 1) := by decide +kernel
theorem dX4_forfeits_57 : decode cX4_forfeits 57 = .ok (.getfield 18, 3) := by decide +kernel
theorem dX4_forfeits_60 : decode cX4_forfeits 60 = .ok (.iload_n 1, 1) := by decide +kernel
theorem dX4_forfeits_61 : decode cX4_forfeits 61 = .ok (.iaload, 1) := by decide +kernel
theorem dX4_forfeits_62 : decode cX4_forfeits 62 = .ok (.ifCond .ne 5, 3) := by decide +kernel
theorem dX4_forfeits_65 : decode cX4_forfeits 65 = .ok (.iconst 0, 1) := by decide +kernel
theorem dX4_forfeits_66 : decode cX4_forfeits 66 = .ok (.ireturn, 1) := by decide +kernel
theorem dX4_forfeits_67 : decode cX4_forfeits 67 = .ok (.aload_n 0, 1) := by decide +kernel
theorem dX4_forfeits_68 : decode cX4_forfeits 68 = .ok (.getfield 18, 3) := by decide +kernel
theorem dX4_forfeits_71 : decode cX4_forfeits 71 = .ok (.iload_n 1, 1) := by decide +kernel
theorem dX4_forfeits_72 : decode cX4_forfeits 72 = .ok (.iconst 0, 1) := by decide +kernel
theorem dX4_forfeits_73 : decode cX4_forfeits 73 = .ok (.iastore, 1) := by decide +kernel
theorem dX4_forfeits_74 : decode cX4_forfeits 74 = .ok (.aload_n 0, 1) := by decide +kernel
theorem dX4_forfeits_75 : decode cX4_forfeits 75 = .ok (.getfield 35, 3) := by decide +kernel
theorem dX4_forfeits_78 : decode cX4_forfeits 78 = .ok (.iload_n 1, 1) := by decide +kernel
theorem dX4_forfeits_79 : decode cX4_forfeits 79 = .ok (.iconst 0, 1) := by decide +kernel
theorem dX4_forfeits_80 : decode cX4_forfeits 80 = .ok (.iastore, 1) := by decide +kernel
theorem dX4_forfeits_81 : decode cX4_forfeits 81 = .ok (.iconst 1, 1) := by decide +kernel
theorem dX4_forfeits_82 : decode cX4_forfeits 82 = .ok (.ireturn, 1) := by decide +kernel
theorem dX4_startYear_0 : decode cX4_startYear 0 = .ok (.aload_n 0, 1) := by decide +kernel
theorem dX4_startYear_1 : decode cX4_startYear 1 = .ok (.getfield 24, 3) := by decide +kernel
theorem dX4_startYear_4 : decode cX4_startYear 4 = .ok (.iload_n 1, 1) := by decide +kernel
theorem dX4_startYear_5 : decode cX4_startYear 5 = .ok (.iconst 0, 1) := by decide +kernel
theorem dX4_startYear_6 : decode cX4_startYear 6 = .ok (.iastore, 1) := by decide +kernel
theorem dX4_startYear_7 : decode cX4_startYear 7 = .ok (.aload_n 0, 1) := by decide +kernel
theorem dX4_startYear_8 : decode cX4_startYear 8 = .ok (.getfield 38, 3) := by decide +kernel
theorem dX4_startYear_11 : decode cX4_startYear 11 = .ok (.iload_n 1, 1) := by decide +kernel
theorem dX4_startYear_12 : decode cX4_startYear 12 = .ok (.iconst 0, 1) := by decide +kernel
theorem dX4_startYear_13 : decode cX4_startYear 13 = .ok (.iastore, 1) := by decide +kernel
theorem dX4_startYear_14 : decode cX4_startYear 14 = .ok (.aload_n 0, 1) := by decide +kernel
theorem dX4_startYear_15 : decode cX4_startYear 15 = .ok (.getfield 31, 3) := by decide +kernel
theorem dX4_startYear_18 : decode cX4_startYear 18 = .ok (.iload_n 1, 1) := by decide +kernel
theorem dX4_startYear_19 : decode cX4_startYear 19 = .ok (.iconst 0, 1) := by decide +kernel
theorem dX4_startYear_20 : decode cX4_startYear 20 = .ok (.bastore, 1) := by decide +kernel
theorem dX4_startYear_21 : decode cX4_startYear 21 = .ok (.return_, 1) := by decide +kernel
theorem dX4_keptToAmounts_0 : decode cX4_keptToAmounts 0 = .ok (.iconst 0, 1) := by decide +kernel
theorem dX4_keptToAmounts_1 : decode cX4_keptToAmounts 1 = .ok (.istore_n 1, 1) := by decide +kernel
theorem dX4_keptToAmounts_2 : decode cX4_keptToAmounts 2 = .ok (.iload_n 1, 1) := by decide +kernel
theorem dX4_keptToAmounts_3 : decode cX4_keptToAmounts 3 = .ok (.aload_n 0, 1) := by decide +kernel
theorem dX4_keptToAmounts_4 : decode cX4_keptToAmounts 4 = .ok (.getfield 44, 3) := by decide +kernel
theorem dX4_keptToAmounts_7 : decode cX4_keptToAmounts 7 = .ok (.if_icmp .ge 33, 3) := by decide +kernel
theorem dX4_keptToAmounts_10 : decode cX4_keptToAmounts 10 = .ok (.aload_n 0, 1) := by decide +kernel
theorem dX4_keptToAmounts_11 : decode cX4_keptToAmounts 11 = .ok (.getfield 24, 3) := by decide +kernel
theorem dX4_keptToAmounts_14 : decode cX4_keptToAmounts 14 = .ok (.iload_n 1, 1) := by decide +kernel
theorem dX4_keptToAmounts_15 : decode cX4_keptToAmounts 15 = .ok (.iaload, 1) := by decide +kernel
theorem dX4_keptToAmounts_16 : decode cX4_keptToAmounts 16 = .ok (.aload_n 0, 1) := by decide +kernel
theorem dX4_keptToAmounts_17 : decode cX4_keptToAmounts 17 = .ok (.getfield 18, 3) := by decide +kernel
theorem dX4_keptToAmounts_20 : decode cX4_keptToAmounts 20 = .ok (.iload_n 1, 1) := by decide +kernel
theorem dX4_keptToAmounts_21 : decode cX4_keptToAmounts 21 = .ok (.iaload, 1) := by decide +kernel
theorem dX4_keptToAmounts_22 : decode cX4_keptToAmounts 22 = .ok (.aload_n 0, 1) := by decide +kernel
theorem dX4_keptToAmounts_23 : decode cX4_keptToAmounts 23 = .ok (.getfield 38, 3) := by decide +kernel
theorem dX4_keptToAmounts_26 : decode cX4_keptToAmounts 26 = .ok (.iload_n 1, 1) := by decide +kernel
theorem dX4_keptToAmounts_27 : decode cX4_keptToAmounts 27 = .ok (.iaload, 1) := by decide +kernel
theorem dX4_keptToAmounts_28 : decode cX4_keptToAmounts 28 = .ok (.iadd, 1) := by decide +kernel
theorem dX4_keptToAmounts_29 : decode cX4_keptToAmounts 29 = .ok (.if_icmp .le 5, 3) := by decide +kernel
theorem dX4_keptToAmounts_32 : decode cX4_keptToAmounts 32 = .ok (.iconst 0, 1) := by decide +kernel
theorem dX4_keptToAmounts_33 : decode cX4_keptToAmounts 33 = .ok (.ireturn, 1) := by decide +kernel
theorem dX4_keptToAmounts_34 : decode cX4_keptToAmounts 34 = .ok (.iinc 1 1, 3) := by decide +kernel
theorem dX4_keptToAmounts_37 : decode cX4_keptToAmounts 37 = .ok (.goto (-35), 3) := by decide +kernel
theorem dX4_keptToAmounts_40 : decode cX4_keptToAmounts 40 = .ok (.iconst 1, 1) := by decide +kernel
theorem dX4_keptToAmounts_41 : decode cX4_keptToAmounts 41 = .ok (.ireturn, 1) := by decide +kernel
theorem dX5_init_0 : decode cX5_init 0 = .ok (.aload_n 0, 1) := by decide +kernel
theorem dX5_init_1 : decode cX5_init 1 = .ok (.invokespecial 3, 3) := by decide +kernel
theorem dX5_init_4 : decode cX5_init 4 = .ok (.aload_n 0, 1) := by decide +kernel
theorem dX5_init_5 : decode cX5_init 5 = .ok (.new 9, 3) := by decide +kernel
theorem dX5_init_8 : decode cX5_init 8 = .ok (.dup, 1) := by decide +kernel
theorem dX5_init_9 : decode cX5_init 9 = .ok (.invokespecial 11, 3) := by decide +kernel
theorem dX5_init_12 : decode cX5_init 12 = .ok (.putfield 12, 3) := by decide +kernel
theorem dX5_init_15 : decode cX5_init 15 = .ok (.aload_n 0, 1) := by decide +kernel
theorem dX5_init_16 : decode cX5_init 16 = .ok (.new 18, 3) := by decide +kernel
theorem dX5_init_19 : decode cX5_init 19 = .ok (.dup, 1) := by decide +kernel
theorem dX5_init_20 : decode cX5_init 20 = .ok (.invokespecial 20, 3) := by decide +kernel
theorem dX5_init_23 : decode cX5_init 23 = .ok (.putfield 21, 3) := by decide +kernel
theorem dX5_init_26 : decode cX5_init 26 = .ok (.aload_n 0, 1) := by decide +kernel
theorem dX5_init_27 : decode cX5_init 27 = .ok (.new 25, 3) := by decide +kernel
theorem dX5_init_30 : decode cX5_init 30 = .ok (.dup, 1) := by decide +kernel
theorem dX5_init_31 : decode cX5_init 31 = .ok (.invokespecial 27, 3) := by decide +kernel
theorem dX5_init_34 : decode cX5_init 34 = .ok (.putfield 28, 3) := by decide +kernel
theorem dX5_init_37 : decode cX5_init 37 = .ok (.aload_n 0, 1) := by decide +kernel
theorem dX5_init_38 : decode cX5_init 38 = .ok (.new 32, 3) := by decide +kernel
theorem dX5_init_41 : decode cX5_init 41 = .ok (.dup, 1) := by decide +kernel
theorem dX5_init_42 : decode cX5_init 42 = .ok (.invokespecial 34, 3) := by decide +kernel
theorem dX5_init_45 : decode cX5_init 45 = .ok (.putfield 35, 3) := by decide +kernel
theorem dX5_init_48 : decode cX5_init 48 = .ok (.aload_n 0, 1) := by decide +kernel
theorem dX5_init_49 : decode cX5_init 49 = .ok (.new 39, 3) := by decide +kernel
theorem dX5_init_52 : decode cX5_init 52 = .ok (.dup, 1) := by decide +kernel
theorem dX5_init_53 : decode cX5_init 53 = .ok (.invokespecial 41, 3) := by decide +kernel
theorem dX5_init_56 : decode cX5_init 56 = .ok (.putfield 42, 3) := by decide +kernel
theorem dX5_init_59 : decode cX5_init 59 = .ok (.aload_n 0, 1) := by decide +kernel
theorem dX5_init_60 : decode cX5_init 60 = .ok (.bipush 16, 2) := by decide +kernel
theorem dX5_init_62 : decode cX5_init 62 = .ok (.newarray .int, 2) := by decide +kernel
theorem dX5_init_64 : decode cX5_init 64 = .ok (.putfield 46, 3) := by decide +kernel
theorem dX5_init_67 : decode cX5_init 67 = .ok (.aload_n 0, 1) := by decide +kernel
theorem dX5_init_68 : decode cX5_init 68 = .ok (.bipush 16, 2) := by decide +kernel
theorem dX5_init_70 : decode cX5_init 70 = .ok (.newarray .int, 2) := by decide +kernel
theorem dX5_init_72 : decode cX5_init 72 = .ok (.putfield 50, 3) := by decide +kernel
theorem dX5_init_75 : decode cX5_init 75 = .ok (.aload_n 0, 1) := by decide +kernel
theorem dX5_init_76 : decode cX5_init 76 = .ok (.bipush 16, 2) := by decide +kernel
theorem dX5_init_78 : decode cX5_init 78 = .ok (.newarray .int, 2) := by decide +kernel
theorem dX5_init_80 : decode cX5_init 80 = .ok (.putfield 53, 3) := by decide +kernel
theorem dX5_init_83 : decode cX5_init 83 = .ok (.aload_n 0, 1) := by decide +kernel
theorem dX5_init_84 : decode cX5_init 84 = .ok (.iload_n 1, 1) := by decide +kernel
theorem dX5_init_85 : decode cX5_init 85 = .ok (.putfield 56, 3) := by decide +kernel
theorem dX5_init_88 : decode cX5_init 88 = .ok (.aload_n 0, 1) := by decide +kernel
theorem dX5_init_89 : decode cX5_init 89 = .ok (.iload_n 2, 1) := by decide +kernel
theorem dX5_init_90 : decode cX5_init 90 = .ok (.putfield 60, 3) := by decide +kernel
theorem dX5_init_93 : decode cX5_init 93 = .ok (.return_, 1) := by decide +kernel
theorem dX5_followDiary_0 : decode cX5_followDiary 0 = .ok (.aload_n 0, 1) := by decide +kernel
theorem dX5_followDiary_1 : decode cX5_followDiary 1 = .ok (.getfield 64, 3) := by decide +kernel
theorem dX5_followDiary_4 : decode cX5_followDiary 4 = .ok (.istore_n 2, 1) := by decide +kernel
theorem dX5_followDiary_5 : decode cX5_followDiary 5 = .ok (.iload_n 2, 1) := by decide +kernel
theorem dX5_followDiary_6 : decode cX5_followDiary 6 = .ok (.aload_n 1, 1) := by decide +kernel
theorem dX5_followDiary_7 : decode cX5_followDiary 7 = .ok (.invokevirtual 67, 3) := by decide +kernel
theorem dX5_followDiary_10 : decode cX5_followDiary 10 = .ok (.if_icmp .ge 21, 3) := by decide +kernel
theorem dX5_followDiary_13 : decode cX5_followDiary 13 = .ok (.aload_n 0, 1) := by decide +kernel
theorem dX5_followDiary_14 : decode cX5_followDiary 14 = .ok (.aload_n 1, 1) := by decide +kernel
theorem dX5_followDiary_15 : decode cX5_followDiary 15 = .ok (.iload_n 2, 1) := by decide +kernel
theorem dX5_followDiary_16 : decode cX5_followDiary 16 = .ok (.invokevirtual 73, 3) := by decide +kernel
theorem dX5_followDiary_19 : decode cX5_followDiary 19 = .ok (.checkcast 77, 3) := by decide +kernel
theorem dX5_followDiary_22 : decode cX5_followDiary 22 = .ok (.invokevirtual 79, 3) := by decide +kernel
theorem dX5_followDiary_25 : decode cX5_followDiary 25 = .ok (.iinc 2 1, 3) := by decide +kernel
theorem dX5_followDiary_28 : decode cX5_followDiary 28 = .ok (.goto (-23), 3) := by decide +kernel
theorem dX5_followDiary_31 : decode cX5_followDiary 31 = .ok (.aload_n 0, 1) := by decide +kernel
theorem dX5_followDiary_32 : decode cX5_followDiary 32 = .ok (.aload_n 1, 1) := by decide +kernel
theorem dX5_followDiary_33 : decode cX5_followDiary 33 = .ok (.invokevirtual 67, 3) := by decide +kernel
theorem dX5_followDiary_36 : decode cX5_followDiary 36 = .ok (.putfield 64, 3) := by decide +kernel
theorem dX5_followDiary_39 : decode cX5_followDiary 39 = .ok (.return_, 1) := by decide +kernel
theorem dX5_follow_0 : decode cX5_follow 0 = .ok (.aload_n 1, 1) := by decide +kernel
theorem dX5_follow_1 : decode cX5_follow 1 = .ok (.getfield 83, 3) := by decide +kernel
theorem dX5_follow_4 : decode cX5_follow 4 = .ok (.tableswitch 293 0 10 #[60, 83, 102, 121, 140, 159, 194, 208, 222, 244, 274], 60) := by decide +kernel
theorem dX5_follow_64 : decode cX5_follow 64 = .ok (.aload_n 0, 1) := by decide +kernel
theorem dX5_follow_65 : decode cX5_follow 65 = .ok (.aload_n 1, 1) := by decide +kernel
theorem dX5_follow_66 : decode cX5_follow 66 = .ok (.getfield 86, 3) := by decide +kernel
theorem dX5_follow_69 : decode cX5_follow 69 = .ok (.aload_n 1, 1) := by decide +kernel
theorem dX5_follow_70 : decode cX5_follow 70 = .ok (.getfield 89, 3) := by decide +kernel
theorem dX5_follow_73 : decode cX5_follow 73 = .ok (.aload_n 1, 1) := by decide +kernel
theorem dX5_follow_74 : decode cX5_follow 74 = .ok (.getfield 92, 3) := by decide +kernel
theorem dX5_follow_77 : decode cX5_follow 77 = .ok (.aload_n 1, 1) := by decide +kernel
theorem dX5_follow_78 : decode cX5_follow 78 = .ok (.getfield 95, 3) := by decide +kernel
theorem dX5_follow_81 : decode cX5_follow 81 = .ok (.invokevirtual 98, 3) := by decide +kernel
theorem dX5_follow_84 : decode cX5_follow 84 = .ok (.goto 221, 3) := by decide +kernel
theorem dX5_follow_87 : decode cX5_follow 87 = .ok (.aload_n 0, 1) := by decide +kernel
theorem dX5_follow_88 : decode cX5_follow 88 = .ok (.getfield 21, 3) := by decide +kernel
theorem dX5_follow_91 : decode cX5_follow 91 = .ok (.getfield 102, 3) := by decide +kernel
theorem dX5_follow_94 : decode cX5_follow 94 = .ok (.aload_n 1, 1) := by decide +kernel
theorem dX5_follow_95 : decode cX5_follow 95 = .ok (.getfield 86, 3) := by decide +kernel
theorem dX5_follow_98 : decode cX5_follow 98 = .ok (.aload_n 1, 1) := by decide +kernel
theorem dX5_follow_99 : decode cX5_follow 99 = .ok (.getfield 89, 3) := by decide +kernel
theorem dX5_follow_102 : decode cX5_follow 102 = .ok (.iastore, 1) := by decide +kernel
theorem dX5_follow_103 : decode cX5_follow 103 = .ok (.goto 202, 3) := by decide +kernel
theorem dX5_follow_106 : decode cX5_follow 106 = .ok (.aload_n 0, 1) := by decide +kernel
theorem dX5_follow_107 : decode cX5_follow 107 = .ok (.getfield 21, 3) := by decide +kernel
theorem dX5_follow_110 : decode cX5_follow 110 = .ok (.getfield 105, 3) := by decide +kernel
theorem dX5_follow_113 : decode cX5_follow 113 = .ok (.aload_n 1, 1) := by decide +kernel
theorem dX5_follow_114 : decode cX5_follow 114 = .ok (.getfield 86, 3) := by decide +kernel
theorem dX5_follow_117 : decode cX5_follow 117 = .ok (.aload_n 1, 1) := by decide +kernel
theorem dX5_follow_118 : decode cX5_follow 118 = .ok (.getfield 89, 3) := by decide +kernel
theorem dX5_follow_121 : decode cX5_follow 121 = .ok (.iastore, 1) := by decide +kernel
theorem dX5_follow_122 : decode cX5_follow 122 = .ok (.goto 183, 3) := by decide +kernel
theorem dX5_follow_125 : decode cX5_follow 125 = .ok (.aload_n 0, 1) := by decide +kernel
theorem dX5_follow_126 : decode cX5_follow 126 = .ok (.getfield 21, 3) := by decide +kernel
theorem dX5_follow_129 : decode cX5_follow 129 = .ok (.getfield 108, 3) := by decide +kernel
theorem dX5_follow_132 : decode cX5_follow 132 = .ok (.aload_n 1, 1) := by decide +kernel
theorem dX5_follow_133 : decode cX5_follow 133 = .ok (.getfield 86, 3) := by decide +kernel
theorem dX5_follow_136 : decode cX5_follow 136 = .ok (.aload_n 1, 1) := by decide +kernel
theorem dX5_follow_137 : decode cX5_follow 137 = .ok (.getfield 89, 3) := by decide +kernel
theorem dX5_follow_140 : decode cX5_follow 140 = .ok (.iastore, 1) := by decide +kernel
theorem dX5_follow_141 : decode cX5_follow 141 = .ok (.goto 164, 3) := by decide +kernel
theorem dX5_follow_144 : decode cX5_follow 144 = .ok (.aload_n 0, 1) := by decide +kernel
theorem dX5_follow_145 : decode cX5_follow 145 = .ok (.getfield 21, 3) := by decide +kernel
theorem dX5_follow_148 : decode cX5_follow 148 = .ok (.getfield 111, 3) := by decide +kernel
theorem dX5_follow_151 : decode cX5_follow 151 = .ok (.aload_n 1, 1) := by decide +kernel
theorem dX5_follow_152 : decode cX5_follow 152 = .ok (.getfield 86, 3) := by decide +kernel
theorem dX5_follow_155 : decode cX5_follow 155 = .ok (.aload_n 1, 1) := by decide +kernel
theorem dX5_follow_156 : decode cX5_follow 156 = .ok (.getfield 89, 3) := by decide +kernel
theorem dX5_follow_159 : decode cX5_follow 159 = .ok (.iastore, 1) := by decide +kernel
theorem dX5_follow_160 : decode cX5_follow 160 = .ok (.goto 145, 3) := by decide +kernel
theorem dX5_follow_163 : decode cX5_follow 163 = .ok (.aload_n 0, 1) := by decide +kernel
theorem dX5_follow_164 : decode cX5_follow 164 = .ok (.getfield 21, 3) := by decide +kernel
theorem dX5_follow_167 : decode cX5_follow 167 = .ok (.getfield 114, 3) := by decide +kernel
theorem dX5_follow_170 : decode cX5_follow 170 = .ok (.aload_n 1, 1) := by decide +kernel
theorem dX5_follow_171 : decode cX5_follow 171 = .ok (.getfield 86, 3) := by decide +kernel
theorem dX5_follow_174 : decode cX5_follow 174 = .ok (.aload_n 1, 1) := by decide +kernel
theorem dX5_follow_175 : decode cX5_follow 175 = .ok (.getfield 89, 3) := by decide +kernel
theorem dX5_follow_178 : decode cX5_follow 178 = .ok (.iastore, 1) := by decide +kernel
theorem dX5_follow_179 : decode cX5_follow 179 = .ok (.aload_n 0, 1) := by decide +kernel
theorem dX5_follow_180 : decode cX5_follow 180 = .ok (.getfield 21, 3) := by decide +kernel
theorem dX5_follow_183 : decode cX5_follow 183 = .ok (.getfield 117, 3) := by decide +kernel
theorem dX5_follow_186 : decode cX5_follow 186 = .ok (.aload_n 1, 1) := by decide +kernel
theorem dX5_follow_187 : decode cX5_follow 187 = .ok (.getfield 86, 3) := by decide +kernel
theorem dX5_follow_190 : decode cX5_follow 190 = .ok (.aload_n 1, 1) := by decide +kernel
theorem dX5_follow_191 : decode cX5_follow 191 = .ok (.getfield 92, 3) := by decide +kernel
theorem dX5_follow_194 : decode cX5_follow 194 = .ok (.iastore, 1) := by decide +kernel
theorem dX5_follow_195 : decode cX5_follow 195 = .ok (.goto 110, 3) := by decide +kernel
theorem dX5_follow_198 : decode cX5_follow 198 = .ok (.aload_n 0, 1) := by decide +kernel
theorem dX5_follow_199 : decode cX5_follow 199 = .ok (.getfield 21, 3) := by decide +kernel
theorem dX5_follow_202 : decode cX5_follow 202 = .ok (.aload_n 1, 1) := by decide +kernel
theorem dX5_follow_203 : decode cX5_follow 203 = .ok (.getfield 86, 3) := by decide +kernel
theorem dX5_follow_206 : decode cX5_follow 206 = .ok (.putfield 120, 3) := by decide +kernel
theorem dX5_follow_209 : decode cX5_follow 209 = .ok (.goto 96, 3) := by decide +kernel
theorem dX5_follow_212 : decode cX5_follow 212 = .ok (.aload_n 0, 1) := by decide +kernel
theorem dX5_follow_213 : decode cX5_follow 213 = .ok (.getfield 21, 3) := by decide +kernel
theorem dX5_follow_216 : decode cX5_follow 216 = .ok (.aload_n 1, 1) := by decide +kernel
theorem dX5_follow_217 : decode cX5_follow 217 = .ok (.getfield 86, 3) := by decide +kernel
theorem dX5_follow_220 : decode cX5_follow 220 = .ok (.putfield 123, 3) := by decide +kernel
theorem dX5_follow_223 : decode cX5_follow 223 = .ok (.goto 82, 3) := by decide +kernel
theorem dX5_follow_226 : decode cX5_follow 226 = .ok (.aload_n 0, 1) := by decide +kernel
theorem dX5_follow_227 : decode cX5_follow 227 = .ok (.getfield 28, 3) := by decide +kernel
theorem dX5_follow_230 : decode cX5_follow 230 = .ok (.aload_n 1, 1) := by decide +kernel
theorem dX5_follow_231 : decode cX5_follow 231 = .ok (.getfield 86, 3) := by decide +kernel
theorem dX5_follow_234 : decode cX5_follow 234 = .ok (.aload_n 1, 1) := by decide +kernel
theorem dX5_follow_235 : decode cX5_follow 235 = .ok (.getfield 89, 3) := by decide +kernel
theorem dX5_follow_238 : decode cX5_follow 238 = .ok (.aload_n 1, 1) := by decide +kernel
theorem dX5_follow_239 : decode cX5_follow 239 = .ok (.getfield 92, 3) := by decide +kernel
theorem dX5_follow_242 : decode cX5_follow 242 = .ok (.invokevirtual 126, 3) := by decide +kernel
theorem dX5_follow_245 : decode cX5_follow 245 = .ok (.goto 60, 3) := by decide +kernel
theorem dX5_follow_248 : decode cX5_follow 248 = .ok (.aload_n 1, 1) := by decide +kernel
theorem dX5_follow_249 : decode cX5_follow 249 = .ok (.getfield 86, 3) := by decide +kernel
theorem dX5_follow_252 : decode cX5_follow 252 = .ok (.aload_n 0, 1) := by decide +kernel
theorem dX5_follow_253 : decode cX5_follow 253 = .ok (.getfield 56, 3) := by decide +kernel
theorem dX5_follow_256 : decode cX5_follow 256 = .ok (.if_icmp .eq 49, 3) := by decide +kernel
theorem dX5_follow_259 : decode cX5_follow 259 = .ok (.aload_n 0, 1) := by decide +kernel
theorem dX5_follow_260 : decode cX5_follow 260 = .ok (.getfield 28, 3) := by decide +kernel
theorem dX5_follow_263 : decode cX5_follow 263 = .ok (.getfield 130, 3) := by decide +kernel
theorem dX5_follow_266 : decode cX5_follow 266 = .ok (.aload_n 1, 1) := by decide +kernel
theorem dX5_follow_267 : decode cX5_follow 267 = .ok (.getfield 86, 3) := by decide +kernel
theorem dX5_follow_270 : decode cX5_follow 270 = .ok (.aload_n 1, 1) := by decide +kernel
theorem dX5_follow_271 : decode cX5_follow 271 = .ok (.getfield 89, 3) := by decide +kernel
theorem dX5_follow_274 : decode cX5_follow 274 = .ok (.iastore, 1) := by decide +kernel
theorem dX5_follow_275 : decode cX5_follow 275 = .ok (.goto 30, 3) := by decide +kernel
theorem dX5_follow_278 : decode cX5_follow 278 = .ok (.aload_n 0, 1) := by decide +kernel
theorem dX5_follow_279 : decode cX5_follow 279 = .ok (.aload_n 1, 1) := by decide +kernel
theorem dX5_follow_280 : decode cX5_follow 280 = .ok (.getfield 86, 3) := by decide +kernel
theorem dX5_follow_283 : decode cX5_follow 283 = .ok (.aload_n 1, 1) := by decide +kernel
theorem dX5_follow_284 : decode cX5_follow 284 = .ok (.getfield 89, 3) := by decide +kernel
theorem dX5_follow_287 : decode cX5_follow 287 = .ok (.aload_n 1, 1) := by decide +kernel
theorem dX5_follow_288 : decode cX5_follow 288 = .ok (.getfield 92, 3) := by decide +kernel
theorem dX5_follow_291 : decode cX5_follow 291 = .ok (.invokevirtual 133, 3) := by decide +kernel
theorem dX5_follow_294 : decode cX5_follow 294 = .ok (.goto 11, 3) := by decide +kernel
theorem dX5_follow_297 : decode cX5_follow 297 = .ok (.aload_n 0, 1) := by decide +kernel
theorem dX5_follow_298 : decode cX5_follow 298 = .ok (.aload_n 1, 1) := by decide +kernel
theorem dX5_follow_299 : decode cX5_follow 299 = .ok (.getfield 86, 3) := by decide +kernel
theorem dX5_follow_302 : decode cX5_follow 302 = .ok (.invokevirtual 136, 3) := by decide +kernel
theorem dX5_follow_305 : decode cX5_follow 305 = .ok (.return_, 1) := by decide +kernel
theorem dX5_followTransfer_0 : decode cX5_followTransfer 0 = .ok (.iload_n 1, 1) := by decide +kernel
theorem dX5_followTransfer_1 : decode cX5_followTransfer 1 = .ok (.aload_n 0, 1) := by decide +kernel
theorem dX5_followTransfer_2 : decode cX5_followTransfer 2 = .ok (.getfield 56, 3) := by decide +kernel
theorem dX5_followTransfer_5 : decode cX5_followTransfer 5 = .ok (.if_icmp .eq 34, 3) := by decide +kernel
theorem dX5_followTransfer_8 : decode cX5_followTransfer 8 = .ok (.iload_n 2, 1) := by decide +kernel
theorem dX5_followTransfer_9 : decode cX5_followTransfer 9 = .ok (.aload_n 0, 1) := by decide +kernel
theorem dX5_followTransfer_10 : decode cX5_followTransfer 10 = .ok (.getfield 56, 3) := by decide +kernel
theorem dX5_followTransfer_13 : decode cX5_followTransfer 13 = .ok (.if_icmp .eq 26, 3) := by decide +kernel
theorem dX5_followTransfer_16 : decode cX5_followTransfer 16 = .ok (.aload_n 0, 1) := by decide +kernel
theorem dX5_followTransfer_17 : decode cX5_followTransfer 17 = .ok (.getfield 28, 3) := by decide +kernel
theorem dX5_followTransfer_20 : decode cX5_followTransfer 20 = .ok (.iload_n 1, 1) := by decide +kernel
theorem dX5_followTransfer_21 : decode cX5_followTransfer 21 = .ok (.iload_n 2, 1) := by decide +kernel
theorem dX5_followTransfer_22 : decode cX5_followTransfer 22 = .ok (.iload_n 3, 1) := by decide +kernel
theorem dX5_followTransfer_23 : decode cX5_followTransfer 23 = .ok (.invokevirtual 140, 3) := by decide +kernel
theorem dX5_followTransfer_26 : decode cX5_followTransfer 26 = .ok (.ifCond .eq 13, 3) := by decide +kernel
theorem dX5_followTransfer_29 : decode cX5_followTransfer 29 = .ok (.aload_n 0, 1) := by decide +kernel
theorem dX5_followTransfer_30 : decode cX5_followTransfer 30 = .ok (.getfield 28, 3) := by decide +kernel
theorem dX5_followTransfer_33 : decode cX5_followTransfer 33 = .ok (.iload_n 1, 1) := by decide +kernel
theorem dX5_followTransfer_34 : decode cX5_followTransfer 34 = .ok (.iload_n 2, 1) := by decide +kernel
theorem dX5_followTransfer_35 : decode cX5_followTransfer 35 = .ok (.iload_n 3, 1) := by decide +kernel
theorem dX5_followTransfer_36 : decode cX5_followTransfer 36 = .ok (.invokevirtual 144, 3) := by decide +kernel
theorem dX5_followTransfer_39 : decode cX5_followTransfer 39 = .ok (.return_, 1) := by decide +kernel
theorem dX5_fillCell_0 : decode cX5_fillCell 0 = .ok (.aload_n 0, 1) := by decide +kernel
theorem dX5_fillCell_1 : decode cX5_fillCell 1 = .ok (.getfield 35, 3) := by decide +kernel
theorem dX5_fillCell_4 : decode cX5_fillCell 4 = .ok (.getfield 147, 3) := by decide +kernel
theorem dX5_fillCell_7 : decode cX5_fillCell 7 = .ok (.iconst 0, 1) := by decide +kernel
theorem dX5_fillCell_8 : decode cX5_fillCell 8 = .ok (.dup2, 1) := by decide +kernel
theorem dX5_fillCell_9 : decode cX5_fillCell 9 = .ok (.laload, 1) := by decide +kernel
theorem dX5_fillCell_10 : decode cX5_fillCell 10 = .ok (.iload 4, 2) := by decide +kernel
theorem dX5_fillCell_12 : decode cX5_fillCell 12 = .ok (.aload_n 0, 1) := by decide +kernel
theorem dX5_fillCell_13 : decode cX5_fillCell 13 = .ok (.getfield 12, 3) := by decide +kernel
theorem dX5_fillCell_16 : decode cX5_fillCell 16 = .ok (.getfield 151, 3) := by decide +kernel
theorem dX5_fillCell_19 : decode cX5_fillCell 19 = .ok (.iload_n 1, 1) := by decide +kernel
theorem dX5_fillCell_20 : decode cX5_fillCell 20 = .ok (.iaload, 1) := by decide +kernel
theorem dX5_fillCell_21 : decode cX5_fillCell 21 = .ok (.isub, 1) := by decide +kernel
theorem dX5_fillCell_22 : decode cX5_fillCell 22 = .ok (.i2l, 1) := by decide +kernel
theorem dX5_fillCell_23 : decode cX5_fillCell 23 = .ok (.ladd, 1) := by decide +kernel
theorem dX5_fillCell_24 : decode cX5_fillCell 24 = .ok (.lastore, 1) := by decide +kernel
theorem dX5_fillCell_25 : decode cX5_fillCell 25 = .ok (.aload_n 0, 1) := by decide +kernel
theorem dX5_fillCell_26 : decode cX5_fillCell 26 = .ok (.getfield 12, 3) := by decide +kernel
theorem dX5_fillCell_29 : decode cX5_fillCell 29 = .ok (.getfield 154, 3) := by decide +kernel
theorem dX5_fillCell_32 : decode cX5_fillCell 32 = .ok (.iload_n 1, 1) := by decide +kernel
theorem dX5_fillCell_33 : decode cX5_fillCell 33 = .ok (.iload_n 2, 1) := by decide +kernel
theorem dX5_fillCell_34 : decode cX5_fillCell 34 = .ok (.iastore, 1) := by decide +kernel
theorem dX5_fillCell_35 : decode cX5_fillCell 35 = .ok (.aload_n 0, 1) := by decide +kernel
theorem dX5_fillCell_36 : decode cX5_fillCell 36 = .ok (.getfield 12, 3) := by decide +kernel
theorem dX5_fillCell_39 : decode cX5_fillCell 39 = .ok (.getfield 157, 3) := by decide +kernel
theorem dX5_fillCell_42 : decode cX5_fillCell 42 = .ok (.iload_n 1, 1) := by decide +kernel
theorem dX5_fillCell_43 : decode cX5_fillCell 43 = .ok (.iload_n 3, 1) := by decide +kernel
theorem dX5_fillCell_44 : decode cX5_fillCell 44 = .ok (.iastore, 1) := by decide +kernel
theorem dX5_fillCell_45 : decode cX5_fillCell 45 = .ok (.aload_n 0, 1) := by decide +kernel
theorem dX5_fillCell_46 : decode cX5_fillCell 46 = .ok (.getfield 12, 3) := by decide +kernel
theorem dX5_fillCell_49 : decode cX5_fillCell 49 = .ok (.getfield 151, 3) := by decide +kernel
theorem dX5_fillCell_52 : decode cX5_fillCell 52 = .ok (.iload_n 1, 1) := by decide +kernel
theorem dX5_fillCell_53 : decode cX5_fillCell 53 = .ok (.iload 4, 2) := by decide +kernel
theorem dX5_fillCell_55 : decode cX5_fillCell 55 = .ok (.iastore, 1) := by decide +kernel
theorem dX5_fillCell_56 : decode cX5_fillCell 56 = .ok (.aload_n 0, 1) := by decide +kernel
theorem dX5_fillCell_57 : decode cX5_fillCell 57 = .ok (.getfield 12, 3) := by decide +kernel
theorem dX5_fillCell_60 : decode cX5_fillCell 60 = .ok (.getfield 160, 3) := by decide +kernel
theorem dX5_fillCell_63 : decode cX5_fillCell 63 = .ok (.iload_n 1, 1) := by decide +kernel
theorem dX5_fillCell_64 : decode cX5_fillCell 64 = .ok (.iconst 0, 1) := by decide +kernel
theorem dX5_fillCell_65 : decode cX5_fillCell 65 = .ok (.iastore, 1) := by decide +kernel
theorem dX5_fillCell_66 : decode cX5_fillCell 66 = .ok (.return_, 1) := by decide +kernel
theorem dX5_letMonthsPass_0 : decode cX5_letMonthsPass 0 = .ok (.iconst 0, 1) := by decide +kernel
theorem dX5_letMonthsPass_1 : decode cX5_letMonthsPass 1 = .ok (.istore_n 2, 1) := by decide +kernel
theorem dX5_letMonthsPass_2 : decode cX5_letMonthsPass 2 = .ok (.iload_n 2, 1) := by decide +kernel
theorem dX5_letMonthsPass_3 : decode cX5_letMonthsPass 3 = .ok (.iload_n 1, 1) := by decide +kernel
theorem dX5_letMonthsPass_4 : decode cX5_letMonthsPass 4 = .ok (.if_icmp .ge 44, 3) := by decide +kernel
theorem dX5_letMonthsPass_7 : decode cX5_letMonthsPass 7 = .ok (.aload_n 0, 1) := by decide +kernel
theorem dX5_letMonthsPass_8 : decode cX5_letMonthsPass 8 = .ok (.invokevirtual 163, 3) := by decide +kernel
theorem dX5_letMonthsPass_11 : decode cX5_letMonthsPass 11 = .ok (.aload_n 0, 1) := by decide +kernel
theorem dX5_letMonthsPass_12 : decode cX5_letMonthsPass 12 = .ok (.invokevirtual 166, 3) := by decide +kernel
theorem dX5_letMonthsPass_15 : decode cX5_letMonthsPass 15 = .ok (.aload_n 0, 1) := by decide +kernel
theorem dX5_letMonthsPass_16 : decode cX5_letMonthsPass 16 = .ok (.invokevirtual 169, 3) := by decide +kernel
theorem dX5_letMonthsPass_19 : decode cX5_letMonthsPass 19 = .ok (.aload_n 0, 1) := by decide +kernel
theorem dX5_letMonthsPass_20 : decode cX5_letMonthsPass 20 = .ok (.invokevirtual 172, 3) := by decide +kernel
theorem dX5_letMonthsPass_23 : decode cX5_letMonthsPass 23 = .ok (.aload_n 0, 1) := by decide +kernel
theorem dX5_letMonthsPass_24 : decode cX5_letMonthsPass 24 = .ok (.invokevirtual 175, 3) := by decide +kernel
theorem dX5_letMonthsPass_27 : decode cX5_letMonthsPass 27 = .ok (.aload_n 0, 1) := by decide +kernel
theorem dX5_letMonthsPass_28 : decode cX5_letMonthsPass 28 = .ok (.iconst 0, 1) := by decide +kernel
theorem dX5_letMonthsPass_29 : decode cX5_letMonthsPass 29 = .ok (.invokevirtual 178, 3) := by decide +kernel
theorem dX5_letMonthsPass_32 : decode cX5_letMonthsPass 32 = .ok (.aload_n 0, 1) := by decide +kernel
theorem dX5_letMonthsPass_33 : decode cX5_letMonthsPass 33 = .ok (.bipush 8, 2) := by decide +kernel
theorem dX5_letMonthsPass_35 : decode cX5_letMonthsPass 35 = .ok (.invokevirtual 178, 3) := by decide +kernel
theorem dX5_letMonthsPass_38 : decode cX5_letMonthsPass 38 = .ok (.aload_n 0, 1) := by decide +kernel
theorem dX5_letMonthsPass_39 : decode cX5_letMonthsPass 39 = .ok (.invokevirtual 181, 3) := by decide +kernel
theorem dX5_letMonthsPass_42 : decode cX5_letMonthsPass 42 = .ok (.iinc 2 1, 3) := by decide +kernel
theorem dX5_letMonthsPass_45 : decode cX5_letMonthsPass 45 = .ok (.goto (-43), 3) := by decide +kernel
theorem dX5_letMonthsPass_48 : decode cX5_letMonthsPass 48 = .ok (.return_, 1) := by decide +kernel
theorem dX5_note_0 : decode cX5_note 0 = .ok (.aload_n 0, 1) := by decide +kernel
theorem dX5_note_1 : decode cX5_note 1 = .ok (.getfield 60, 3) := by decide +kernel
theorem dX5_note_4 : decode cX5_note 4 = .ok (.ifCond .eq 12, 3) := by decide +kernel
theorem dX5_note_7 : decode cX5_note 7 = .ok (.aload_n 0, 1) := by decide +kernel
theorem dX5_note_8 : decode cX5_note 8 = .ok (.getfield 42, 3) := by decide +kernel
theorem dX5_note_11 : decode cX5_note 11 = .ok (.iload_n 1, 1) := by decide +kernel
theorem dX5_note_12 : decode cX5_note 12 = .ok (.invokevirtual 184, 3) := by decide +kernel
theorem dX5_note_15 : decode cX5_note 15 = .ok (.pop, 1) := by decide +kernel
theorem dX5_note_16 : decode cX5_note 16 = .ok (.return_, 1) := by decide +kernel
theorem dX5_letRainFall_0 : decode cX5_letRainFall 0 = .ok (.iconst 0, 1) := by decide +kernel
theorem dX5_letRainFall_1 : decode cX5_letRainFall 1 = .ok (.istore_n 1, 1) := by decide +kernel
theorem dX5_letRainFall_2 : decode cX5_letRainFall 2 = .ok (.iload_n 1, 1) := by decide +kernel
theorem dX5_letRainFall_3 : decode cX5_letRainFall 3 = .ok (.bipush 8, 2) := by decide +kernel
theorem dX5_letRainFall_5 : decode cX5_letRainFall 5 = .ok (.if_icmp .ge 52, 3) := by decide +kernel
theorem dX5_letRainFall_8 : decode cX5_letRainFall 8 = .ok (.aload_n 0, 1) := by decide +kernel
theorem dX5_letRainFall_9 : decode cX5_letRainFall 9 = .ok (.getfield 12, 3) := by decide +kernel
theorem dX5_letRainFall_12 : decode cX5_letRainFall 12 = .ok (.getfield 151, 3) := by decide +kernel
theorem dX5_letRainFall_15 : decode cX5_letRainFall 15 = .ok (.iload_n 1, 1) := by decide +kernel
theorem dX5_letRainFall_16 : decode cX5_letRainFall 16 = .ok (.dup2, 1) := by decide +kernel
theorem dX5_letRainFall_17 : decode cX5_letRainFall 17 = .ok (.iaload, 1) := by decide +kernel
theorem dX5_letRainFall_18 : decode cX5_letRainFall 18 = .ok (.aload_n 0, 1) := by decide +kernel
theorem dX5_letRainFall_19 : decode cX5_letRainFall 19 = .ok (.getfield 21, 3) := by decide +kernel
theorem dX5_letRainFall_22 : decode cX5_letRainFall 22 = .ok (.getfield 111, 3) := by decide +kernel
theorem dX5_letRainFall_25 : decode cX5_letRainFall 25 = .ok (.iload_n 1, 1) := by decide +kernel
theorem dX5_letRainFall_26 : decode cX5_letRainFall 26 = .ok (.iaload, 1) := by decide +kernel
theorem dX5_letRainFall_27 : decode cX5_letRainFall 27 = .ok (.iadd, 1) := by decide +kernel
theorem dX5_letRainFall_28 : decode cX5_letRainFall 28 = .ok (.iastore, 1) := by decide +kernel
theorem dX5_letRainFall_29 : decode cX5_letRainFall 29 = .ok (.aload_n 0, 1) := by decide +kernel
theorem dX5_letRainFall_30 : decode cX5_letRainFall 30 = .ok (.getfield 35, 3) := by decide +kernel
theorem dX5_letRainFall_33 : decode cX5_letRainFall 33 = .ok (.getfield 147, 3) := by decide +kernel
theorem dX5_letRainFall_36 : decode cX5_letRainFall 36 = .ok (.iconst 1, 1) := by decide +kernel
theorem dX5_letRainFall_37 : decode cX5_letRainFall 37 = .ok (.dup2, 1) := by decide +kernel
theorem dX5_letRainFall_38 : decode cX5_letRainFall 38 = .ok (.laload, 1) := by decide +kernel
theorem dX5_letRainFall_39 : decode cX5_letRainFall 39 = .ok (.aload_n 0, 1) := by decide +kernel
theorem dX5_letRainFall_40 : decode cX5_letRainFall 40 = .ok (.getfield 21, 3) := by decide +kernel
theorem dX5_letRainFall_43 : decode cX5_letRainFall 43 = .ok (.getfield 111, 3) := by decide +kernel
theorem dX5_letRainFall_46 : decode cX5_letRainFall 46 = .ok (.iload_n 1, 1) := by decide +kernel
theorem dX5_letRainFall_47 : decode cX5_letRainFall 47 = .ok (.iaload, 1) := by decide +kernel
theorem dX5_letRainFall_48 : decode cX5_letRainFall 48 = .ok (.i2l, 1) := by decide +kernel
theorem dX5_letRainFall_49 : decode cX5_letRainFall 49 = .ok (.ladd, 1) := by decide +kernel
theorem dX5_letRainFall_50 : decode cX5_letRainFall 50 = .ok (.lastore, 1) := by decide +kernel
theorem dX5_letRainFall_51 : decode cX5_letRainFall 51 = .ok (.iinc 1 1, 3) := by decide +kernel
theorem dX5_letRainFall_54 : decode cX5_letRainFall 54 = .ok (.goto (-52), 3) := by decide +kernel
theorem dX5_letRainFall_57 : decode cX5_letRainFall 57 = .ok (.return_, 1) := by decide +kernel
theorem dX5_pumpWells_0 : decode cX5_pumpWells 0 = .ok (.iconst 0, 1) := by decide +kernel
theorem dX5_pumpWells_1 : decode cX5_pumpWells 1 = .ok (.istore_n 1, 1) := by decide +kernel
theorem dX5_pumpWells_2 : decode cX5_pumpWells 2 = .ok (.iload_n 1, 1) := by decide +kernel
theorem dX5_pumpWells_3 : decode cX5_pumpWells 3 = .ok (.aload_n 0, 1) := by decide +kernel
theorem dX5_pumpWells_4 : decode cX5_pumpWells 4 = .ok (.getfield 28, 3) := by decide +kernel
theorem dX5_pumpWells_7 : decode cX5_pumpWells 7 = .ok (.getfield 188, 3) := by decide +kernel
theorem dX5_pumpWells_10 : decode cX5_pumpWells 10 = .ok (.if_icmp .ge 34, 3) := by decide +kernel
theorem dX5_pumpWells_13 : decode cX5_pumpWells 13 = .ok (.aload_n 0, 1) := by decide +kernel
theorem dX5_pumpWells_14 : decode cX5_pumpWells 14 = .ok (.getfield 28, 3) := by decide +kernel
theorem dX5_pumpWells_17 : decode cX5_pumpWells 17 = .ok (.getfield 191, 3) := by decide +kernel
theorem dX5_pumpWells_20 : decode cX5_pumpWells 20 = .ok (.aload_n 0, 1) := by decide +kernel
theorem dX5_pumpWells_21 : decode cX5_pumpWells 21 = .ok (.getfield 28, 3) := by decide +kernel
theorem dX5_pumpWells_24 : decode cX5_pumpWells 24 = .ok (.getfield 195, 3) := by decide +kernel
theorem dX5_pumpWells_27 : decode cX5_pumpWells 27 = .ok (.iload_n 1, 1) := by decide +kernel
theorem dX5_pumpWells_28 : decode cX5_pumpWells 28 = .ok (.iaload, 1) := by decide +kernel
theorem dX5_pumpWells_29 : decode cX5_pumpWells 29 = .ok (.baload, 1) := by decide +kernel
theorem dX5_pumpWells_30 : decode cX5_pumpWells 30 = .ok (.ifCond .ne 8, 3) := by decide +kernel
theorem dX5_pumpWells_33 : decode cX5_pumpWells 33 = .ok (.aload_n 0, 1) := by decide +kernel
theorem dX5_pumpWells_34 : decode cX5_pumpWells 34 = .ok (.iload_n 1, 1) := by decide +kernel
theorem dX5_pumpWells_35 : decode cX5_pumpWells 35 = .ok (.invokevirtual 198, 3) := by decide +kernel
theorem dX5_pumpWells_38 : decode cX5_pumpWells 38 = .ok (.iinc 1 1, 3) := by decide +kernel
theorem dX5_pumpWells_41 : decode cX5_pumpWells 41 = .ok (.goto (-39), 3) := by decide +kernel
theorem dX5_pumpWells_44 : decode cX5_pumpWells 44 = .ok (.return_, 1) := by decide +kernel
theorem dX5_pumpWell_0 : decode cX5_pumpWell 0 = .ok (.aload_n 0, 1) := by decide +kernel
theorem dX5_pumpWell_1 : decode cX5_pumpWell 1 = .ok (.getfield 28, 3) := by decide +kernel
theorem dX5_pumpWell_4 : decode cX5_pumpWell 4 = .ok (.getfield 195, 3) := by decide +kernel
theorem dX5_pumpWell_7 : decode cX5_pumpWell 7 = .ok (.iload_n 1, 1) := by decide +kernel
theorem dX5_pumpWell_8 : decode cX5_pumpWell 8 = .ok (.iaload, 1) := by decide +kernel
theorem dX5_pumpWell_9 : decode cX5_pumpWell 9 = .ok (.istore_n 2, 1) := by decide +kernel
theorem dX5_pumpWell_10 : decode cX5_pumpWell 10 = .ok (.aload_n 0, 1) := by decide +kernel
theorem dX5_pumpWell_11 : decode cX5_pumpWell 11 = .ok (.getfield 28, 3) := by decide +kernel
theorem dX5_pumpWell_14 : decode cX5_pumpWell 14 = .ok (.getfield 201, 3) := by decide +kernel
theorem dX5_pumpWell_17 : decode cX5_pumpWell 17 = .ok (.iload_n 2, 1) := by decide +kernel
theorem dX5_pumpWell_18 : decode cX5_pumpWell 18 = .ok (.iaload, 1) := by decide +kernel
theorem dX5_pumpWell_19 : decode cX5_pumpWell 19 = .ok (.istore_n 3, 1) := by decide +kernel
theorem dX5_pumpWell_20 : decode cX5_pumpWell 20 = .ok (.aload_n 0, 1) := by decide +kernel
theorem dX5_pumpWell_21 : decode cX5_pumpWell 21 = .ok (.getfield 28, 3) := by decide +kernel
theorem dX5_pumpWell_24 : decode cX5_pumpWell 24 = .ok (.iload_n 2, 1) := by decide +kernel
theorem dX5_pumpWell_25 : decode cX5_pumpWell 25 = .ok (.invokevirtual 203, 3) := by decide +kernel
theorem dX5_pumpWell_28 : decode cX5_pumpWell 28 = .ok (.istore 4, 2) := by decide +kernel
theorem dX5_pumpWell_30 : decode cX5_pumpWell 30 = .ok (.iload 4, 2) := by decide +kernel
theorem dX5_pumpWell_32 : decode cX5_pumpWell 32 = .ok (.aload_n 0, 1) := by decide +kernel
theorem dX5_pumpWell_33 : decode cX5_pumpWell 33 = .ok (.getfield 12, 3) := by decide +kernel
theorem dX5_pumpWell_36 : decode cX5_pumpWell 36 = .ok (.getfield 151, 3) := by decide +kernel
theorem dX5_pumpWell_39 : decode cX5_pumpWell 39 = .ok (.iload_n 3, 1) := by decide +kernel
theorem dX5_pumpWell_40 : decode cX5_pumpWell 40 = .ok (.iaload, 1) := by decide +kernel
theorem dX5_pumpWell_41 : decode cX5_pumpWell 41 = .ok (.invokestatic 207, 3) := by decide +kernel
theorem dX5_pumpWell_44 : decode cX5_pumpWell 44 = .ok (.istore 5, 2) := by decide +kernel
theorem dX5_pumpWell_46 : decode cX5_pumpWell 46 = .ok (.aload_n 0, 1) := by decide +kernel
theorem dX5_pumpWell_47 : decode cX5_pumpWell 47 = .ok (.getfield 12, 3) := by decide +kernel
theorem dX5_pumpWell_50 : decode cX5_pumpWell 50 = .ok (.iload_n 3, 1) := by decide +kernel
theorem dX5_pumpWell_51 : decode cX5_pumpWell 51 = .ok (.iload 5, 2) := by decide +kernel
theorem dX5_pumpWell_53 : decode cX5_pumpWell 53 = .ok (.invokevirtual 213, 3) := by decide +kernel
theorem dX5_pumpWell_56 : decode cX5_pumpWell 56 = .ok (.pop, 1) := by decide +kernel
theorem dX5_pumpWell_57 : decode cX5_pumpWell 57 = .ok (.aload_n 0, 1) := by decide +kernel
theorem dX5_pumpWell_58 : decode cX5_pumpWell 58 = .ok (.getfield 28, 3) := by decide +kernel
theorem dX5_pumpWell_61 : decode cX5_pumpWell 61 = .ok (.getfield 216, 3) := by decide +kernel
theorem dX5_pumpWell_64 : decode cX5_pumpWell 64 = .ok (.iload_n 2, 1) := by decide +kernel
theorem dX5_pumpWell_65 : decode cX5_pumpWell 65 = .ok (.dup2, 1) := by decide +kernel
theorem dX5_pumpWell_66 : decode cX5_pumpWell 66 = .ok (.iaload, 1) := by decide +kernel
theorem dX5_pumpWell_67 : decode cX5_pumpWell 67 = .ok (.iload 5, 2) := by decide +kernel
theorem dX5_pumpWell_69 : decode cX5_pumpWell 69 = .ok (.iadd, 1) := by decide +kernel
theorem dX5_pumpWell_70 : decode cX5_pumpWell 70 = .ok (.iastore, 1) := by decide +kernel
theorem dX5_pumpWell_71 : decode cX5_pumpWell 71 = .ok (.aload_n 0, 1) := by decide +kernel
theorem dX5_pumpWell_72 : decode cX5_pumpWell 72 = .ok (.getfield 28, 3) := by decide +kernel
theorem dX5_pumpWell_75 : decode cX5_pumpWell 75 = .ok (.getfield 219, 3) := by decide +kernel
theorem dX5_pumpWell_78 : decode cX5_pumpWell 78 = .ok (.iload_n 2, 1) := by decide +kernel
theorem dX5_pumpWell_79 : decode cX5_pumpWell 79 = .ok (.dup2, 1) := by decide +kernel
theorem dX5_pumpWell_80 : decode cX5_pumpWell 80 = .ok (.laload, 1) := by decide +kernel
theorem dX5_pumpWell_81 : decode cX5_pumpWell 81 = .ok (.iload 5, 2) := by decide +kernel
theorem dX5_pumpWell_83 : decode cX5_pumpWell 83 = .ok (.i2l, 1) := by decide +kernel
theorem dX5_pumpWell_84 : decode cX5_pumpWell 84 = .ok (.ladd, 1) := by decide +kernel
theorem dX5_pumpWell_85 : decode cX5_pumpWell 85 = .ok (.lastore, 1) := by decide +kernel
theorem dX5_pumpWell_86 : decode cX5_pumpWell 86 = .ok (.aload_n 0, 1) := by decide +kernel
theorem dX5_pumpWell_87 : decode cX5_pumpWell 87 = .ok (.getfield 35, 3) := by decide +kernel
theorem dX5_pumpWell_90 : decode cX5_pumpWell 90 = .ok (.getfield 147, 3) := by decide +kernel
theorem dX5_pumpWell_93 : decode cX5_pumpWell 93 = .ok (.iconst 2, 1) := by decide +kernel
theorem dX5_pumpWell_94 : decode cX5_pumpWell 94 = .ok (.dup2, 1) := by decide +kernel
theorem dX5_pumpWell_95 : decode cX5_pumpWell 95 = .ok (.laload, 1) := by decide +kernel
theorem dX5_pumpWell_96 : decode cX5_pumpWell 96 = .ok (.iload 5, 2) := by decide +kernel
theorem dX5_pumpWell_98 : decode cX5_pumpWell 98 = .ok (.i2l, 1) := by decide +kernel
theorem dX5_pumpWell_99 : decode cX5_pumpWell 99 = .ok (.ladd, 1) := by decide +kernel
theorem dX5_pumpWell_100 : decode cX5_pumpWell 100 = .ok (.lastore, 1) := by decide +kernel
theorem dX5_pumpWell_101 : decode cX5_pumpWell 101 = .ok (.iload 5, 2) := by decide +kernel
theorem dX5_pumpWell_103 : decode cX5_pumpWell 103 = .ok (.iload 4, 2) := by decide +kernel
theorem dX5_pumpWell_105 : decode cX5_pumpWell 105 = .ok (.if_icmp .ge 17, 3) := by decide +kernel
theorem dX5_pumpWell_108 : decode cX5_pumpWell 108 = .ok (.aload_n 0, 1) := by decide +kernel
theorem dX5_pumpWell_109 : decode cX5_pumpWell 109 = .ok (.bipush 99, 2) := by decide +kernel
theorem dX5_pumpWell_111 : decode cX5_pumpWell 111 = .ok (.invokevirtual 222, 3) := by decide +kernel
theorem dX5_pumpWell_114 : decode cX5_pumpWell 114 = .ok (.aload_n 0, 1) := by decide +kernel
theorem dX5_pumpWell_115 : decode cX5_pumpWell 115 = .ok (.getfield 28, 3) := by decide +kernel
theorem dX5_pumpWell_118 : decode cX5_pumpWell 118 = .ok (.iload_n 1, 1) := by decide +kernel
theorem dX5_pumpWell_119 : decode cX5_pumpWell 119 = .ok (.invokevirtual 226, 3) := by decide +kernel
theorem dX5_pumpWell_122 : decode cX5_pumpWell 122 = .ok (.return_, 1) := by decide +kernel
theorem dX5_letWaterFlow_0 : decode cX5_letWaterFlow 0 = .ok (.iconst 0, 1) := by decide +kernel
theorem dX5_letWaterFlow_1 : decode cX5_letWaterFlow 1 = .ok (.istore_n 1, 1) := by decide +kernel
theorem dX5_letWaterFlow_2 : decode cX5_letWaterFlow 2 = .ok (.iload_n 1, 1) := by decide +kernel
theorem dX5_letWaterFlow_3 : decode cX5_letWaterFlow 3 = .ok (.bipush 16, 2) := by decide +kernel
theorem dX5_letWaterFlow_5 : decode cX5_letWaterFlow 5 = .ok (.if_icmp .ge 37, 3) := by decide +kernel
theorem dX5_letWaterFlow_8 : decode cX5_letWaterFlow 8 = .ok (.aload_n 0, 1) := by decide +kernel
theorem dX5_letWaterFlow_9 : decode cX5_letWaterFlow 9 = .ok (.getfield 46, 3) := by decide +kernel
theorem dX5_letWaterFlow_12 : decode cX5_letWaterFlow 12 = .ok (.iload_n 1, 1) := by decide +kernel
theorem dX5_letWaterFlow_13 : decode cX5_letWaterFlow 13 = .ok (.aload_n 0, 1) := by decide +kernel
theorem dX5_letWaterFlow_14 : decode cX5_letWaterFlow 14 = .ok (.getfield 12, 3) := by decide +kernel
theorem dX5_letWaterFlow_17 : decode cX5_letWaterFlow 17 = .ok (.iload_n 1, 1) := by decide +kernel
theorem dX5_letWaterFlow_18 : decode cX5_letWaterFlow 18 = .ok (.invokevirtual 229, 3) := by decide +kernel
theorem dX5_letWaterFlow_21 : decode cX5_letWaterFlow 21 = .ok (.iastore, 1) := by decide +kernel
theorem dX5_letWaterFlow_22 : decode cX5_letWaterFlow 22 = .ok (.aload_n 0, 1) := by decide +kernel
theorem dX5_letWaterFlow_23 : decode cX5_letWaterFlow 23 = .ok (.getfield 50, 3) := by decide +kernel
theorem dX5_letWaterFlow_26 : decode cX5_letWaterFlow 26 = .ok (.iload_n 1, 1) := by decide +kernel
theorem dX5_letWaterFlow_27 : decode cX5_letWaterFlow 27 = .ok (.iconst 0, 1) := by decide +kernel
theorem dX5_letWaterFlow_28 : decode cX5_letWaterFlow 28 = .ok (.iastore, 1) := by decide +kernel
theorem dX5_letWaterFlow_29 : decode cX5_letWaterFlow 29 = .ok (.aload_n 0, 1) := by decide +kernel
theorem dX5_letWaterFlow_30 : decode cX5_letWaterFlow 30 = .ok (.getfield 53, 3) := by decide +kernel
theorem dX5_letWaterFlow_33 : decode cX5_letWaterFlow 33 = .ok (.iload_n 1, 1) := by decide +kernel
theorem dX5_letWaterFlow_34 : decode cX5_letWaterFlow 34 = .ok (.iconst 0, 1) := by decide +kernel
theorem dX5_letWaterFlow_35 : decode cX5_letWaterFlow 35 = .ok (.iastore, 1) := by decide +kernel
theorem dX5_letWaterFlow_36 : decode cX5_letWaterFlow 36 = .ok (.iinc 1 1, 3) := by decide +kernel
theorem dX5_letWaterFlow_39 : decode cX5_letWaterFlow 39 = .ok (.goto (-37), 3) := by decide +kernel
theorem dX5_letWaterFlow_42 : decode cX5_letWaterFlow 42 = .ok (.iconst 0, 1) := by decide +kernel
theorem dX5_letWaterFlow_43 : decode cX5_letWaterFlow 43 = .ok (.istore_n 1, 1) := by decide +kernel
theorem dX5_letWaterFlow_44 : decode cX5_letWaterFlow 44 = .ok (.iload_n 1, 1) := by decide +kernel
theorem dX5_letWaterFlow_45 : decode cX5_letWaterFlow 45 = .ok (.bipush 16, 2) := by decide +kernel
theorem dX5_letWaterFlow_47 : decode cX5_letWaterFlow 47 = .ok (.if_icmp .ge 76, 3) := by decide +kernel
theorem dX5_letWaterFlow_50 : decode cX5_letWaterFlow 50 = .ok (.iload_n 1, 1) := by decide +kernel
theorem dX5_letWaterFlow_51 : decode cX5_letWaterFlow 51 = .ok (.bipush 8, 2) := by decide +kernel
theorem dX5_letWaterFlow_53 : decode cX5_letWaterFlow 53 = .ok (.irem, 1) := by decide +kernel
theorem dX5_letWaterFlow_54 : decode cX5_letWaterFlow 54 = .ok (.istore_n 2, 1) := by decide +kernel
theorem dX5_letWaterFlow_55 : decode cX5_letWaterFlow 55 = .ok (.aload_n 0, 1) := by decide +kernel
theorem dX5_letWaterFlow_56 : decode cX5_letWaterFlow 56 = .ok (.getfield 21, 3) := by decide +kernel
theorem dX5_letWaterFlow_59 : decode cX5_letWaterFlow 59 = .ok (.getfield 105, 3) := by decide +kernel
theorem dX5_letWaterFlow_62 : decode cX5_letWaterFlow 62 = .ok (.iload_n 1, 1) := by decide +kernel
theorem dX5_letWaterFlow_63 : decode cX5_letWaterFlow 63 = .ok (.bipush 8, 2) := by decide +kernel
theorem dX5_letWaterFlow_65 : decode cX5_letWaterFlow 65 = .ok (.idiv, 1) := by decide +kernel
theorem dX5_letWaterFlow_66 : decode cX5_letWaterFlow 66 = .ok (.iaload, 1) := by decide +kernel
theorem dX5_letWaterFlow_67 : decode cX5_letWaterFlow 67 = .ok (.istore_n 3, 1) := by decide +kernel
theorem dX5_letWaterFlow_68 : decode cX5_letWaterFlow 68 = .ok (.iload_n 2, 1) := by decide +kernel
theorem dX5_letWaterFlow_69 : decode cX5_letWaterFlow 69 = .ok (.ifCond .le 12, 3) := by decide +kernel
theorem dX5_letWaterFlow_72 : decode cX5_letWaterFlow 72 = .ok (.aload_n 0, 1) := by decide +kernel
theorem dX5_letWaterFlow_73 : decode cX5_letWaterFlow 73 = .ok (.iload_n 1, 1) := by decide +kernel
theorem dX5_letWaterFlow_74 : decode cX5_letWaterFlow 74 = .ok (.iload_n 1, 1) := by decide +kernel
theorem dX5_letWaterFlow_75 : decode cX5_letWaterFlow 75 = .ok (.iconst 1, 1) := by decide +kernel
theorem dX5_letWaterFlow_76 : decode cX5_letWaterFlow 76 = .ok (.isub, 1) := by decide +kernel
theorem dX5_letWaterFlow_77 : decode cX5_letWaterFlow 77 = .ok (.iload_n 3, 1) := by decide +kernel
theorem dX5_letWaterFlow_78 : decode cX5_letWaterFlow 78 = .ok (.invokevirtual 232, 3) := by decide +kernel
theorem dX5_letWaterFlow_81 : decode cX5_letWaterFlow 81 = .ok (.iload_n 2, 1) := by decide +kernel
theorem dX5_letWaterFlow_82 : decode cX5_letWaterFlow 82 = .ok (.bipush 7, 2) := by decide +kernel
theorem dX5_letWaterFlow_84 : decode cX5_letWaterFlow 84 = .ok (.if_icmp .ge 12, 3) := by decide +kernel
theorem dX5_letWaterFlow_87 : decode cX5_letWaterFlow 87 = .ok (.aload_n 0, 1) := by decide +kernel
theorem dX5_letWaterFlow_88 : decode cX5_letWaterFlow 88 = .ok (.iload_n 1, 1) := by decide +kernel
theorem dX5_letWaterFlow_89 : decode cX5_letWaterFlow 89 = .ok (.iload_n 1, 1) := by decide +kernel
theorem dX5_letWaterFlow_90 : decode cX5_letWaterFlow 90 = .ok (.iconst 1, 1) := by decide +kernel
theorem dX5_letWaterFlow_91 : decode cX5_letWaterFlow 91 = .ok (.iadd, 1) := by decide +kernel
theorem dX5_letWaterFlow_92 : decode cX5_letWaterFlow 92 = .ok (.iload_n 3, 1) := by decide +kernel
theorem dX5_letWaterFlow_93 : decode cX5_letWaterFlow 93 = .ok (.invokevirtual 232, 3) := by decide +kernel
theorem dX5_letWaterFlow_96 : decode cX5_letWaterFlow 96 = .ok (.aload_n 0, 1) := by decide +kernel
theorem dX5_letWaterFlow_97 : decode cX5_letWaterFlow 97 = .ok (.iload_n 1, 1) := by decide +kernel
theorem dX5_letWaterFlow_98 : decode cX5_letWaterFlow 98 = .ok (.iload_n 1, 1) := by decide +kernel
theorem dX5_letWaterFlow_99 : decode cX5_letWaterFlow 99 = .ok (.bipush 8, 2) := by decide +kernel
theorem dX5_letWaterFlow_101 : decode cX5_letWaterFlow 101 = .ok (.iadd, 1) := by decide +kernel
theorem dX5_letWaterFlow_102 : decode cX5_letWaterFlow 102 = .ok (.bipush 16, 2) := by decide +kernel
theorem dX5_letWaterFlow_104 : decode cX5_letWaterFlow 104 = .ok (.irem, 1) := by decide +kernel
theorem dX5_letWaterFlow_105 : decode cX5_letWaterFlow 105 = .ok (.aload_n 0, 1) := by decide +kernel
theorem dX5_letWaterFlow_106 : decode cX5_letWaterFlow 106 = .ok (.getfield 21, 3) := by decide +kernel
theorem dX5_letWaterFlow_109 : decode cX5_letWaterFlow 109 = .ok (.getfield 108, 3) := by decide +kernel
theorem dX5_letWaterFlow_112 : decode cX5_letWaterFlow 112 = .ok (.iload_n 2, 1) := by decide +kernel
theorem dX5_letWaterFlow_113 : decode cX5_letWaterFlow 113 = .ok (.iaload, 1) := by decide +kernel
theorem dX5_letWaterFlow_114 : decode cX5_letWaterFlow 114 = .ok (.invokevirtual 232, 3) := by decide +kernel
theorem dX5_letWaterFlow_117 : decode cX5_letWaterFlow 117 = .ok (.iinc 1 1, 3) := by decide +kernel
theorem dX5_letWaterFlow_120 : decode cX5_letWaterFlow 120 = .ok (.goto (-76), 3) := by decide +kernel
theorem dX5_letWaterFlow_123 : decode cX5_letWaterFlow 123 = .ok (.iconst 0, 1) := by decide +kernel
theorem dX5_letWaterFlow_124 : decode cX5_letWaterFlow 124 = .ok (.istore_n 1, 1) := by decide +kernel
theorem dX5_letWaterFlow_125 : decode cX5_letWaterFlow 125 = .ok (.iload_n 1, 1) := by decide +kernel
theorem dX5_letWaterFlow_126 : decode cX5_letWaterFlow 126 = .ok (.bipush 16, 2) := by decide +kernel
theorem dX5_letWaterFlow_128 : decode cX5_letWaterFlow 128 = .ok (.if_icmp .ge 45, 3) := by decide +kernel
theorem dX5_letWaterFlow_131 : decode cX5_letWaterFlow 131 = .ok (.aload_n 0, 1) := by decide +kernel
theorem dX5_letWaterFlow_132 : decode cX5_letWaterFlow 132 = .ok (.getfield 12, 3) := by decide +kernel
theorem dX5_letWaterFlow_135 : decode cX5_letWaterFlow 135 = .ok (.getfield 151, 3) := by decide +kernel
theorem dX5_letWaterFlow_138 : decode cX5_letWaterFlow 138 = .ok (.iload_n 1, 1) := by decide +kernel
theorem dX5_letWaterFlow_139 : decode cX5_letWaterFlow 139 = .ok (.dup2, 1) := by decide +kernel
theorem dX5_letWaterFlow_140 : decode cX5_letWaterFlow 140 = .ok (.iaload, 1) := by decide +kernel
theorem dX5_letWaterFlow_141 : decode cX5_letWaterFlow 141 = .ok (.aload_n 0, 1) := by decide +kernel
theorem dX5_letWaterFlow_142 : decode cX5_letWaterFlow 142 = .ok (.getfield 50, 3) := by decide +kernel
theorem dX5_letWaterFlow_145 : decode cX5_letWaterFlow 145 = .ok (.iload_n 1, 1) := by decide +kernel
theorem dX5_letWaterFlow_146 : decode cX5_letWaterFlow 146 = .ok (.iaload, 1) := by decide +kernel
theorem dX5_letWaterFlow_147 : decode cX5_letWaterFlow 147 = .ok (.iadd, 1) := by decide +kernel
theorem dX5_letWaterFlow_148 : decode cX5_letWaterFlow 148 = .ok (.iastore, 1) := by decide +kernel
theorem dX5_letWaterFlow_149 : decode cX5_letWaterFlow 149 = .ok (.aload_n 0, 1) := by decide +kernel
theorem dX5_letWaterFlow_150 : decode cX5_letWaterFlow 150 = .ok (.getfield 12, 3) := by decide +kernel
theorem dX5_letWaterFlow_153 : decode cX5_letWaterFlow 153 = .ok (.getfield 160, 3) := by decide +kernel
theorem dX5_letWaterFlow_156 : decode cX5_letWaterFlow 156 = .ok (.iload_n 1, 1) := by decide +kernel
theorem dX5_letWaterFlow_157 : decode cX5_letWaterFlow 157 = .ok (.dup2, 1) := by decide +kernel
theorem dX5_letWaterFlow_158 : decode cX5_letWaterFlow 158 = .ok (.iaload, 1) := by decide +kernel
theorem dX5_letWaterFlow_159 : decode cX5_letWaterFlow 159 = .ok (.aload_n 0, 1) := by decide +kernel
theorem dX5_letWaterFlow_160 : decode cX5_letWaterFlow 160 = .ok (.getfield 53, 3) := by decide +kernel
theorem dX5_letWaterFlow_163 : decode cX5_letWaterFlow 163 = .ok (.iload_n 1, 1) := by decide +kernel
theorem dX5_letWaterFlow_164 : decode cX5_letWaterFlow 164 = .ok (.iaload, 1) := by decide +kernel
theorem dX5_letWaterFlow_165 : decode cX5_letWaterFlow 165 = .ok (.iadd, 1) := by decide +kernel
theorem dX5_letWaterFlow_166 : decode cX5_letWaterFlow 166 = .ok (.iastore, 1) := by decide +kernel
theorem dX5_letWaterFlow_167 : decode cX5_letWaterFlow 167 = .ok (.iinc 1 1, 3) := by decide +kernel
theorem dX5_letWaterFlow_170 : decode cX5_letWaterFlow 170 = .ok (.goto (-45), 3) := by decide +kernel
theorem dX5_letWaterFlow_173 : decode cX5_letWaterFlow 173 = .ok (.return_, 1) := by decide +kernel
theorem dX5_flow_0 : decode cX5_flow 0 = .ok (.aload_n 0, 1) := by decide +kernel
theorem dX5_flow_1 : decode cX5_flow 1 = .ok (.getfield 46, 3) := by decide +kernel
theorem dX5_flow_4 : decode cX5_flow 4 = .ok (.iload_n 1, 1) := by decide +kernel
theorem dX5_flow_5 : decode cX5_flow 5 = .ok (.iaload, 1) := by decide +kernel
theorem dX5_flow_6 : decode cX5_flow 6 = .ok (.aload_n 0, 1) := by decide +kernel
theorem dX5_flow_7 : decode cX5_flow 7 = .ok (.getfield 46, 3) := by decide +kernel
theorem dX5_flow_10 : decode cX5_flow 10 = .ok (.iload_n 2, 1) := by decide +kernel
theorem dX5_flow_11 : decode cX5_flow 11 = .ok (.iaload, 1) := by decide +kernel
theorem dX5_flow_12 : decode cX5_flow 12 = .ok (.isub, 1) := by decide +kernel
theorem dX5_flow_13 : decode cX5_flow 13 = .ok (.iload_n 3, 1) := by decide +kernel
theorem dX5_flow_14 : decode cX5_flow 14 = .ok (.imul, 1) := by decide +kernel
theorem dX5_flow_15 : decode cX5_flow 15 = .ok (.iconst 4, 1) := by decide +kernel
theorem dX5_flow_16 : decode cX5_flow 16 = .ok (.idiv, 1) := by decide +kernel
theorem dX5_flow_17 : decode cX5_flow 17 = .ok (.istore 4, 2) := by decide +kernel
theorem dX5_flow_19 : decode cX5_flow 19 = .ok (.iload 4, 2) := by decide +kernel
theorem dX5_flow_21 : decode cX5_flow 21 = .ok (.aload_n 0, 1) := by decide +kernel
theorem dX5_flow_22 : decode cX5_flow 22 = .ok (.getfield 12, 3) := by decide +kernel
theorem dX5_flow_25 : decode cX5_flow 25 = .ok (.getfield 151, 3) := by decide +kernel
theorem dX5_flow_28 : decode cX5_flow 28 = .ok (.iload_n 1, 1) := by decide +kernel
theorem dX5_flow_29 : decode cX5_flow 29 = .ok (.iaload, 1) := by decide +kernel
theorem dX5_flow_30 : decode cX5_flow 30 = .ok (.invokestatic 207, 3) := by decide +kernel
theorem dX5_flow_33 : decode cX5_flow 33 = .ok (.istore 5, 2) := by decide +kernel
theorem dX5_flow_35 : decode cX5_flow 35 = .ok (.iload 5, 2) := by decide +kernel
theorem dX5_flow_37 : decode cX5_flow 37 = .ok (.ifCond .le 33, 3) := by decide +kernel
theorem dX5_flow_40 : decode cX5_flow 40 = .ok (.aload_n 0, 1) := by decide +kernel
theorem dX5_flow_41 : decode cX5_flow 41 = .ok (.getfield 53, 3) := by decide +kernel
theorem dX5_flow_44 : decode cX5_flow 44 = .ok (.iload_n 2, 1) := by decide +kernel
theorem dX5_flow_45 : decode cX5_flow 45 = .ok (.dup2, 1) := by decide +kernel
theorem dX5_flow_46 : decode cX5_flow 46 = .ok (.iaload, 1) := by decide +kernel
theorem dX5_flow_47 : decode cX5_flow 47 = .ok (.aload_n 0, 1) := by decide +kernel
theorem dX5_flow_48 : decode cX5_flow 48 = .ok (.getfield 12, 3) := by decide +kernel
theorem dX5_flow_51 : decode cX5_flow 51 = .ok (.iload_n 1, 1) := by decide +kernel
theorem dX5_flow_52 : decode cX5_flow 52 = .ok (.iload 5, 2) := by decide +kernel
theorem dX5_flow_54 : decode cX5_flow 54 = .ok (.invokevirtual 213, 3) := by decide +kernel
theorem dX5_flow_57 : decode cX5_flow 57 = .ok (.iadd, 1) := by decide +kernel
theorem dX5_flow_58 : decode cX5_flow 58 = .ok (.iastore, 1) := by decide +kernel
theorem dX5_flow_59 : decode cX5_flow 59 = .ok (.aload_n 0, 1) := by decide +kernel
theorem dX5_flow_60 : decode cX5_flow 60 = .ok (.getfield 50, 3) := by decide +kernel
theorem dX5_flow_63 : decode cX5_flow 63 = .ok (.iload_n 2, 1) := by decide +kernel
theorem dX5_flow_64 : decode cX5_flow 64 = .ok (.dup2, 1) := by decide +kernel
theorem dX5_flow_65 : decode cX5_flow 65 = .ok (.iaload, 1) := by decide +kernel
theorem dX5_flow_66 : decode cX5_flow 66 = .ok (.iload 5, 2) := by decide +kernel
theorem dX5_flow_68 : decode cX5_flow 68 = .ok (.iadd, 1) := by decide +kernel
theorem dX5_flow_69 : decode cX5_flow 69 = .ok (.iastore, 1) := by decide +kernel
theorem dX5_flow_70 : decode cX5_flow 70 = .ok (.return_, 1) := by decide +kernel
theorem dX5_letRiverRun_0 : decode cX5_letRiverRun 0 = .ok (.aload_n 0, 1) := by decide +kernel
theorem dX5_letRiverRun_1 : decode cX5_letRiverRun 1 = .ok (.getfield 21, 3) := by decide +kernel
theorem dX5_letRiverRun_4 : decode cX5_letRiverRun 4 = .ok (.getfield 120, 3) := by decide +kernel
theorem dX5_letRiverRun_7 : decode cX5_letRiverRun 7 = .ok (.istore_n 1, 1) := by decide +kernel
theorem dX5_letRiverRun_8 : decode cX5_letRiverRun 8 = .ok (.bipush 7, 2) := by decide +kernel
theorem dX5_letRiverRun_10 : decode cX5_letRiverRun 10 = .ok (.istore_n 2, 1) := by decide +kernel
theorem dX5_letRiverRun_11 : decode cX5_letRiverRun 11 = .ok (.iload_n 2, 1) := by decide +kernel
theorem dX5_letRiverRun_12 : decode cX5_letRiverRun 12 = .ok (.ifCond .lt 18, 3) := by decide +kernel
theorem dX5_letRiverRun_15 : decode cX5_letRiverRun 15 = .ok (.iload_n 1, 1) := by decide +kernel
theorem dX5_letRiverRun_16 : decode cX5_letRiverRun 16 = .ok (.aload_n 0, 1) := by decide +kernel
theorem dX5_letRiverRun_17 : decode cX5_letRiverRun 17 = .ok (.iload_n 2, 1) := by decide +kernel
theorem dX5_letRiverRun_18 : decode cX5_letRiverRun 18 = .ok (.iload_n 1, 1) := by decide +kernel
theorem dX5_letRiverRun_19 : decode cX5_letRiverRun 19 = .ok (.invokevirtual 235, 3) := by decide +kernel
theorem dX5_letRiverRun_22 : decode cX5_letRiverRun 22 = .ok (.iadd, 1) := by decide +kernel
theorem dX5_letRiverRun_23 : decode cX5_letRiverRun 23 = .ok (.istore_n 1, 1) := by decide +kernel
theorem dX5_letRiverRun_24 : decode cX5_letRiverRun 24 = .ok (.iinc 2 (-1), 3) := by decide +kernel
theorem dX5_letRiverRun_27 : decode cX5_letRiverRun 27 = .ok (.goto (-16), 3) := by decide +kernel
theorem dX5_letRiverRun_30 : decode cX5_letRiverRun 30 = .ok (.aload_n 0, 1) := by decide +kernel
theorem dX5_letRiverRun_31 : decode cX5_letRiverRun 31 = .ok (.getfield 35, 3) := by decide +kernel
theorem dX5_letRiverRun_34 : decode cX5_letRiverRun 34 = .ok (.getfield 147, 3) := by decide +kernel
theorem dX5_letRiverRun_37 : decode cX5_letRiverRun 37 = .ok (.bipush 8, 2) := by decide +kernel
theorem dX5_letRiverRun_39 : decode cX5_letRiverRun 39 = .ok (.dup2, 1) := by decide +kernel
theorem dX5_letRiverRun_40 : decode cX5_letRiverRun 40 = .ok (.laload, 1) := by decide +kernel
theorem dX5_letRiverRun_41 : decode cX5_letRiverRun 41 = .ok (.iload_n 1, 1) := by decide +kernel
theorem dX5_letRiverRun_42 : decode cX5_letRiverRun 42 = .ok (.i2l, 1) := by decide +kernel
theorem dX5_letRiverRun_43 : decode cX5_letRiverRun 43 = .ok (.ladd, 1) := by decide +kernel
theorem dX5_letRiverRun_44 : decode cX5_letRiverRun 44 = .ok (.lastore, 1) := by decide +kernel
theorem dX5_letRiverRun_45 : decode cX5_letRiverRun 45 = .ok (.return_, 1) := by decide +kernel
theorem dX5_runThroughBed_0 : decode cX5_runThroughBed 0 = .ok (.aload_n 0, 1) := by decide +kernel
theorem dX5_runThroughBed_1 : decode cX5_runThroughBed 1 = .ok (.getfield 21, 3) := by decide +kernel
theorem dX5_runThroughBed_4 : decode cX5_runThroughBed 4 = .ok (.getfield 114, 3) := by decide +kernel
theorem dX5_runThroughBed_7 : decode cX5_runThroughBed 7 = .ok (.iload_n 1, 1) := by decide +kernel
theorem dX5_runThroughBed_8 : decode cX5_runThroughBed 8 = .ok (.iaload, 1) := by decide +kernel
theorem dX5_runThroughBed_9 : decode cX5_runThroughBed 9 = .ok (.aload_n 0, 1) := by decide +kernel
theorem dX5_runThroughBed_10 : decode cX5_runThroughBed 10 = .ok (.getfield 12, 3) := by decide +kernel
theorem dX5_runThroughBed_13 : decode cX5_runThroughBed 13 = .ok (.iload_n 1, 1) := by decide +kernel
theorem dX5_runThroughBed_14 : decode cX5_runThroughBed 14 = .ok (.invokevirtual 229, 3) := by decide +kernel
theorem dX5_runThroughBed_17 : decode cX5_runThroughBed 17 = .ok (.isub, 1) := by decide +kernel
theorem dX5_runThroughBed_18 : decode cX5_runThroughBed 18 = .ok (.aload_n 0, 1) := by decide +kernel
theorem dX5_runThroughBed_19 : decode cX5_runThroughBed 19 = .ok (.getfield 21, 3) := by decide +kernel
theorem dX5_runThroughBed_22 : decode cX5_runThroughBed 22 = .ok (.getfield 117, 3) := by decide +kernel
theorem dX5_runThroughBed_25 : decode cX5_runThroughBed 25 = .ok (.iload_n 1, 1) := by decide +kernel
theorem dX5_runThroughBed_26 : decode cX5_runThroughBed 26 = .ok (.iaload, 1) := by decide +kernel
theorem dX5_runThroughBed_27 : decode cX5_runThroughBed 27 = .ok (.imul, 1) := by decide +kernel
theorem dX5_runThroughBed_28 : decode cX5_runThroughBed 28 = .ok (.iconst 4, 1) := by decide +kernel
theorem dX5_runThroughBed_29 : decode cX5_runThroughBed 29 = .ok (.idiv, 1) := by decide +kernel
theorem dX5_runThroughBed_30 : decode cX5_runThroughBed 30 = .ok (.istore_n 3, 1) := by decide +kernel
theorem dX5_runThroughBed_31 : decode cX5_runThroughBed 31 = .ok (.iload_n 3, 1) := by decide +kernel
theorem dX5_runThroughBed_32 : decode cX5_runThroughBed 32 = .ok (.ifCond .ge 48, 3) := by decide +kernel
theorem dX5_runThroughBed_35 : decode cX5_runThroughBed 35 = .ok (.iload_n 3, 1) := by decide +kernel
theorem dX5_runThroughBed_36 : decode cX5_runThroughBed 36 = .ok (.ineg, 1) := by decide +kernel
theorem dX5_runThroughBed_37 : decode cX5_runThroughBed 37 = .ok (.aload_n 0, 1) := by decide +kernel
theorem dX5_runThroughBed_38 : decode cX5_runThroughBed 38 = .ok (.getfield 12, 3) := by decide +kernel
theorem dX5_runThroughBed_41 : decode cX5_runThroughBed 41 = .ok (.getfield 151, 3) := by decide +kernel
theorem dX5_runThroughBed_44 : decode cX5_runThroughBed 44 = .ok (.iload_n 1, 1) := by decide +kernel
theorem dX5_runThroughBed_45 : decode cX5_runThroughBed 45 = .ok (.iaload, 1) := by decide +kernel
theorem dX5_runThroughBed_46 : decode cX5_runThroughBed 46 = .ok (.invokestatic 207, 3) := by decide +kernel
theorem dX5_runThroughBed_49 : decode cX5_runThroughBed 49 = .ok (.istore 4, 2) := by decide +kernel
theorem dX5_runThroughBed_51 : decode cX5_runThroughBed 51 = .ok (.aload_n 0, 1) := by decide +kernel
theorem dX5_runThroughBed_52 : decode cX5_runThroughBed 52 = .ok (.getfield 12, 3) := by decide +kernel
theorem dX5_runThroughBed_55 : decode cX5_runThroughBed 55 = .ok (.iload_n 1, 1) := by decide +kernel
theorem dX5_runThroughBed_56 : decode cX5_runThroughBed 56 = .ok (.iload 4, 2) := by decide +kernel
theorem dX5_runThroughBed_58 : decode cX5_runThroughBed 58 = .ok (.invokevirtual 213, 3) := by decide +kernel
theorem dX5_runThroughBed_61 : decode cX5_runThroughBed 61 = .ok (.pop, 1) := by decide +kernel
theorem dX5_runThroughBed_62 : decode cX5_runThroughBed 62 = .ok (.aload_n 0, 1) := by decide +kernel
theorem dX5_runThroughBed_63 : decode cX5_runThroughBed 63 = .ok (.getfield 35, 3) := by decide +kernel
theorem dX5_runThroughBed_66 : decode cX5_runThroughBed 66 = .ok (.getfield 147, 3) := by decide +kernel
theorem dX5_runThroughBed_69 : decode cX5_runThroughBed 69 = .ok (.iconst 4, 1) := by decide +kernel
theorem dX5_runThroughBed_70 : decode cX5_runThroughBed 70 = .ok (.dup2, 1) := by decide +kernel
theorem dX5_runThroughBed_71 : decode cX5_runThroughBed 71 = .ok (.laload, 1) := by decide +kernel
theorem dX5_runThroughBed_72 : decode cX5_runThroughBed 72 = .ok (.iload 4, 2) := by decide +kernel
theorem dX5_runThroughBed_74 : decode cX5_runThroughBed 74 = .ok (.i2l, 1) := by decide +kernel
theorem dX5_runThroughBed_75 : decode cX5_runThroughBed 75 = .ok (.ladd, 1) := by decide +kernel
theorem dX5_runThroughBed_76 : decode cX5_runThroughBed 76 = .ok (.lastore, 1) := by decide +kernel
theorem dX5_runThroughBed_77 : decode cX5_runThroughBed 77 = .ok (.iload 4, 2) := by decide +kernel
theorem dX5_runThroughBed_79 : decode cX5_runThroughBed 79 = .ok (.ireturn, 1) := by decide +kernel
theorem dX5_runThroughBed_80 : decode cX5_runThroughBed 80 = .ok (.iload_n 3, 1) := by decide +kernel
theorem dX5_runThroughBed_81 : decode cX5_runThroughBed 81 = .ok (.iload_n 2, 1) := by decide +kernel
theorem dX5_runThroughBed_82 : decode cX5_runThroughBed 82 = .ok (.invokestatic 207, 3) := by decide +kernel
theorem dX5_runThroughBed_85 : decode cX5_runThroughBed 85 = .ok (.istore 4, 2) := by decide +kernel
theorem dX5_runThroughBed_87 : decode cX5_runThroughBed 87 = .ok (.aload_n 0, 1) := by decide +kernel
theorem dX5_runThroughBed_88 : decode cX5_runThroughBed 88 = .ok (.getfield 12, 3) := by decide +kernel
theorem dX5_runThroughBed_91 : decode cX5_runThroughBed 91 = .ok (.getfield 151, 3) := by decide +kernel
theorem dX5_runThroughBed_94 : decode cX5_runThroughBed 94 = .ok (.iload_n 1, 1) := by decide +kernel
theorem dX5_runThroughBed_95 : decode cX5_runThroughBed 95 = .ok (.dup2, 1) := by decide +kernel
theorem dX5_runThroughBed_96 : decode cX5_runThroughBed 96 = .ok (.iaload, 1) := by decide +kernel
theorem dX5_runThroughBed_97 : decode cX5_runThroughBed 97 = .ok (.iload 4, 2) := by decide +kernel
theorem dX5_runThroughBed_99 : decode cX5_runThroughBed 99 = .ok (.iadd, 1) := by decide +kernel
theorem dX5_runThroughBed_100 : decode cX5_runThroughBed 100 = .ok (.iastore, 1) := by decide +kernel
theorem dX5_runThroughBed_101 : decode cX5_runThroughBed 101 = .ok (.aload_n 0, 1) := by decide +kernel
theorem dX5_runThroughBed_102 : decode cX5_runThroughBed 102 = .ok (.getfield 35, 3) := by decide +kernel
theorem dX5_runThroughBed_105 : decode cX5_runThroughBed 105 = .ok (.getfield 147, 3) := by decide +kernel
theorem dX5_runThroughBed_108 : decode cX5_runThroughBed 108 = .ok (.iconst 3, 1) := by decide +kernel
theorem dX5_runThroughBed_109 : decode cX5_runThroughBed 109 = .ok (.dup2, 1) := by decide +kernel
theorem dX5_runThroughBed_110 : decode cX5_runThroughBed 110 = .ok (.laload, 1) := by decide +kernel
theorem dX5_runThroughBed_111 : decode cX5_runThroughBed 111 = .ok (.iload 4, 2) := by decide +kernel
theorem dX5_runThroughBed_113 : decode cX5_runThroughBed 113 = .ok (.i2l, 1) := by decide +kernel
theorem dX5_runThroughBed_114 : decode cX5_runThroughBed 114 = .ok (.ladd, 1) := by decide +kernel
theorem dX5_runThroughBed_115 : decode cX5_runThroughBed 115 = .ok (.lastore, 1) := by decide +kernel
theorem dX5_runThroughBed_116 : decode cX5_runThroughBed 116 = .ok (.iload_n 3, 1) := by decide +kernel
theorem dX5_runThroughBed_117 : decode cX5_runThroughBed 117 = .ok (.ifCond .le 15, 3) := by decide +kernel
theorem dX5_runThroughBed_120 : decode cX5_runThroughBed 120 = .ok (.iload 4, 2) := by decide +kernel
theorem dX5_runThroughBed_122 : decode cX5_runThroughBed 122 = .ok (.iload_n 2, 1) := by decide +kernel
theorem dX5_runThroughBed_123 : decode cX5_runThroughBed 123 = .ok (.if_icmp .ne 9, 3) := by decide +kernel
theorem dX5_runThroughBed_126 : decode cX5_runThroughBed 126 = .ok (.aload_n 0, 1) := by decide +kernel
theorem dX5_runThroughBed_127 : decode cX5_runThroughBed 127 = .ok (.bipush 100, 2) := by decide +kernel
theorem dX5_runThroughBed_129 : decode cX5_runThroughBed 129 = .ok (.invokevirtual 222, 3) := by decide +kernel
theorem dX5_runThroughBed_132 : decode cX5_runThroughBed 132 = .ok (.iload 4, 2) := by decide +kernel
theorem dX5_runThroughBed_134 : decode cX5_runThroughBed 134 = .ok (.ineg, 1) := by decide +kernel
theorem dX5_runThroughBed_135 : decode cX5_runThroughBed 135 = .ok (.ireturn, 1) := by decide +kernel
theorem dX5_letSpringsRun_0 : decode cX5_letSpringsRun 0 = .ok (.iconst 0, 1) := by decide +kernel
theorem dX5_letSpringsRun_1 : decode cX5_letSpringsRun 1 = .ok (.istore_n 1, 1) := by decide +kernel
theorem dX5_letSpringsRun_2 : decode cX5_letSpringsRun 2 = .ok (.iload_n 1, 1) := by decide +kernel
theorem dX5_letSpringsRun_3 : decode cX5_letSpringsRun 3 = .ok (.bipush 8, 2) := by decide +kernel
theorem dX5_letSpringsRun_5 : decode cX5_letSpringsRun 5 = .ok (.if_icmp .ge 34, 3) := by decide +kernel
theorem dX5_letSpringsRun_8 : decode cX5_letSpringsRun 8 = .ok (.aload_n 0, 1) := by decide +kernel
theorem dX5_letSpringsRun_9 : decode cX5_letSpringsRun 9 = .ok (.getfield 12, 3) := by decide +kernel
theorem dX5_letSpringsRun_12 : decode cX5_letSpringsRun 12 = .ok (.iload_n 1, 1) := by decide +kernel
theorem dX5_letSpringsRun_13 : decode cX5_letSpringsRun 13 = .ok (.invokevirtual 229, 3) := by decide +kernel
theorem dX5_letSpringsRun_16 : decode cX5_letSpringsRun 16 = .ok (.aload_n 0, 1) := by decide +kernel
theorem dX5_letSpringsRun_17 : decode cX5_letSpringsRun 17 = .ok (.getfield 21, 3) := by decide +kernel
theorem dX5_letSpringsRun_20 : decode cX5_letSpringsRun 20 = .ok (.getfield 102, 3) := by decide +kernel
theorem dX5_letSpringsRun_23 : decode cX5_letSpringsRun 23 = .ok (.iload_n 1, 1) := by decide +kernel
theorem dX5_letSpringsRun_24 : decode cX5_letSpringsRun 24 = .ok (.iaload, 1) := by decide +kernel
theorem dX5_letSpringsRun_25 : decode cX5_letSpringsRun 25 = .ok (.if_icmp .le 8, 3) := by decide +kernel
theorem dX5_letSpringsRun_28 : decode cX5_letSpringsRun 28 = .ok (.aload_n 0, 1) := by decide +kernel
theorem dX5_letSpringsRun_29 : decode cX5_letSpringsRun 29 = .ok (.iload_n 1, 1) := by decide +kernel
theorem dX5_letSpringsRun_30 : decode cX5_letSpringsRun 30 = .ok (.invokevirtual 238, 3) := by decide +kernel
theorem dX5_letSpringsRun_33 : decode cX5_letSpringsRun 33 = .ok (.iinc 1 1, 3) := by decide +kernel
theorem dX5_letSpringsRun_36 : decode cX5_letSpringsRun 36 = .ok (.goto (-34), 3) := by decide +kernel
theorem dX5_letSpringsRun_39 : decode cX5_letSpringsRun 39 = .ok (.return_, 1) := by decide +kernel
theorem dX5_letSpringRun_0 : decode cX5_letSpringRun 0 = .ok (.iconst 0, 1) := by decide +kernel
theorem dX5_letSpringRun_1 : decode cX5_letSpringRun 1 = .ok (.aload_n 0, 1) := by decide +kernel
theorem dX5_letSpringRun_2 : decode cX5_letSpringRun 2 = .ok (.getfield 21, 3) := by decide +kernel
theorem dX5_letSpringRun_5 : decode cX5_letSpringRun 5 = .ok (.getfield 102, 3) := by decide +kernel
theorem dX5_letSpringRun_8 : decode cX5_letSpringRun 8 = .ok (.iload_n 1, 1) := by decide +kernel
theorem dX5_letSpringRun_9 : decode cX5_letSpringRun 9 = .ok (.iaload, 1) := by decide +kernel
theorem dX5_letSpringRun_10 : decode cX5_letSpringRun 10 = .ok (.aload_n 0, 1) := by decide +kernel
theorem dX5_letSpringRun_11 : decode cX5_letSpringRun 11 = .ok (.getfield 12, 3) := by decide +kernel
theorem dX5_letSpringRun_14 : decode cX5_letSpringRun 14 = .ok (.getfield 154, 3) := by decide +kernel
theorem dX5_letSpringRun_17 : decode cX5_letSpringRun 17 = .ok (.iload_n 1, 1) := by decide +kernel
theorem dX5_letSpringRun_18 : decode cX5_letSpringRun 18 = .ok (.iaload, 1) := by decide +kernel
theorem dX5_letSpringRun_19 : decode cX5_letSpringRun 19 = .ok (.isub, 1) := by decide +kernel
theorem dX5_letSpringRun_20 : decode cX5_letSpringRun 20 = .ok (.aload_n 0, 1) := by decide +kernel
theorem dX5_letSpringRun_21 : decode cX5_letSpringRun 21 = .ok (.getfield 12, 3) := by decide +kernel
theorem dX5_letSpringRun_24 : decode cX5_letSpringRun 24 = .ok (.getfield 157, 3) := by decide +kernel
theorem dX5_letSpringRun_27 : decode cX5_letSpringRun 27 = .ok (.iload_n 1, 1) := by decide +kernel
theorem dX5_letSpringRun_28 : decode cX5_letSpringRun 28 = .ok (.iaload, 1) := by decide +kernel
theorem dX5_letSpringRun_29 : decode cX5_letSpringRun 29 = .ok (.imul, 1) := by decide +kernel
theorem dX5_letSpringRun_30 : decode cX5_letSpringRun 30 = .ok (.invokestatic 241, 3) := by decide +kernel
theorem dX5_letSpringRun_33 : decode cX5_letSpringRun 33 = .ok (.istore_n 2, 1) := by decide +kernel
theorem dX5_letSpringRun_34 : decode cX5_letSpringRun 34 = .ok (.iconst 0, 1) := by decide +kernel
theorem dX5_letSpringRun_35 : decode cX5_letSpringRun 35 = .ok (.aload_n 0, 1) := by decide +kernel
theorem dX5_letSpringRun_36 : decode cX5_letSpringRun 36 = .ok (.getfield 12, 3) := by decide +kernel
theorem dX5_letSpringRun_39 : decode cX5_letSpringRun 39 = .ok (.getfield 151, 3) := by decide +kernel
theorem dX5_letSpringRun_42 : decode cX5_letSpringRun 42 = .ok (.iload_n 1, 1) := by decide +kernel
theorem dX5_letSpringRun_43 : decode cX5_letSpringRun 43 = .ok (.iaload, 1) := by decide +kernel
theorem dX5_letSpringRun_44 : decode cX5_letSpringRun 44 = .ok (.iload_n 2, 1) := by decide +kernel
theorem dX5_letSpringRun_45 : decode cX5_letSpringRun 45 = .ok (.isub, 1) := by decide +kernel
theorem dX5_letSpringRun_46 : decode cX5_letSpringRun 46 = .ok (.invokestatic 241, 3) := by decide +kernel
theorem dX5_letSpringRun_49 : decode cX5_letSpringRun 49 = .ok (.istore_n 3, 1) := by decide +kernel
theorem dX5_letSpringRun_50 : decode cX5_letSpringRun 50 = .ok (.aload_n 0, 1) := by decide +kernel
theorem dX5_letSpringRun_51 : decode cX5_letSpringRun 51 = .ok (.getfield 12, 3) := by decide +kernel
theorem dX5_letSpringRun_54 : decode cX5_letSpringRun 54 = .ok (.iload_n 1, 1) := by decide +kernel
theorem dX5_letSpringRun_55 : decode cX5_letSpringRun 55 = .ok (.iload_n 3, 1) := by decide +kernel
theorem dX5_letSpringRun_56 : decode cX5_letSpringRun 56 = .ok (.invokevirtual 213, 3) := by decide +kernel
theorem dX5_letSpringRun_59 : decode cX5_letSpringRun 59 = .ok (.pop, 1) := by decide +kernel
theorem dX5_letSpringRun_60 : decode cX5_letSpringRun 60 = .ok (.aload_n 0, 1) := by decide +kernel
theorem dX5_letSpringRun_61 : decode cX5_letSpringRun 61 = .ok (.getfield 35, 3) := by decide +kernel
theorem dX5_letSpringRun_64 : decode cX5_letSpringRun 64 = .ok (.getfield 147, 3) := by decide +kernel
theorem dX5_letSpringRun_67 : decode cX5_letSpringRun 67 = .ok (.iconst 5, 1) := by decide +kernel
theorem dX5_letSpringRun_68 : decode cX5_letSpringRun 68 = .ok (.dup2, 1) := by decide +kernel
theorem dX5_letSpringRun_69 : decode cX5_letSpringRun 69 = .ok (.laload, 1) := by decide +kernel
theorem dX5_letSpringRun_70 : decode cX5_letSpringRun 70 = .ok (.iload_n 3, 1) := by decide +kernel
theorem dX5_letSpringRun_71 : decode cX5_letSpringRun 71 = .ok (.i2l, 1) := by decide +kernel
theorem dX5_letSpringRun_72 : decode cX5_letSpringRun 72 = .ok (.ladd, 1) := by decide +kernel
theorem dX5_letSpringRun_73 : decode cX5_letSpringRun 73 = .ok (.lastore, 1) := by decide +kernel
theorem dX5_letSpringRun_74 : decode cX5_letSpringRun 74 = .ok (.return_, 1) := by decide +kernel
theorem dX5_meetSea_0 : decode cX5_meetSea 0 = .ok (.iconst 0, 1) := by decide +kernel
theorem dX5_meetSea_1 : decode cX5_meetSea 1 = .ok (.aload_n 0, 1) := by decide +kernel
theorem dX5_meetSea_2 : decode cX5_meetSea 2 = .ok (.getfield 12, 3) := by decide +kernel
theorem dX5_meetSea_5 : decode cX5_meetSea 5 = .ok (.iload_n 1, 1) := by decide +kernel
theorem dX5_meetSea_6 : decode cX5_meetSea 6 = .ok (.invokevirtual 229, 3) := by decide +kernel
theorem dX5_meetSea_9 : decode cX5_meetSea 9 = .ok (.isub, 1) := by decide +kernel
theorem dX5_meetSea_10 : decode cX5_meetSea 10 = .ok (.aload_n 0, 1) := by decide +kernel
theorem dX5_meetSea_11 : decode cX5_meetSea 11 = .ok (.getfield 21, 3) := by decide +kernel
theorem dX5_meetSea_14 : decode cX5_meetSea 14 = .ok (.getfield 123, 3) := by decide +kernel
theorem dX5_meetSea_17 : decode cX5_meetSea 17 = .ok (.imul, 1) := by decide +kernel
theorem dX5_meetSea_18 : decode cX5_meetSea 18 = .ok (.iconst 4, 1) := by decide +kernel
theorem dX5_meetSea_19 : decode cX5_meetSea 19 = .ok (.idiv, 1) := by decide +kernel
theorem dX5_meetSea_20 : decode cX5_meetSea 20 = .ok (.istore_n 2, 1) := by decide +kernel
theorem dX5_meetSea_21 : decode cX5_meetSea 21 = .ok (.iload_n 2, 1) := by decide +kernel
theorem dX5_meetSea_22 : decode cX5_meetSea 22 = .ok (.ifCond .le 50, 3) := by decide +kernel
theorem dX5_meetSea_25 : decode cX5_meetSea 25 = .ok (.aload_n 0, 1) := by decide +kernel
theorem dX5_meetSea_26 : decode cX5_meetSea 26 = .ok (.getfield 12, 3) := by decide +kernel
theorem dX5_meetSea_29 : decode cX5_meetSea 29 = .ok (.getfield 151, 3) := by decide +kernel
theorem dX5_meetSea_32 : decode cX5_meetSea 32 = .ok (.iload_n 1, 1) := by decide +kernel
theorem dX5_meetSea_33 : decode cX5_meetSea 33 = .ok (.dup2, 1) := by decide +kernel
theorem dX5_meetSea_34 : decode cX5_meetSea 34 = .ok (.iaload, 1) := by decide +kernel
theorem dX5_meetSea_35 : decode cX5_meetSea 35 = .ok (.iload_n 2, 1) := by decide +kernel
theorem dX5_meetSea_36 : decode cX5_meetSea 36 = .ok (.iadd, 1) := by decide +kernel
theorem dX5_meetSea_37 : decode cX5_meetSea 37 = .ok (.iastore, 1) := by decide +kernel
theorem dX5_meetSea_38 : decode cX5_meetSea 38 = .ok (.aload_n 0, 1) := by decide +kernel
theorem dX5_meetSea_39 : decode cX5_meetSea 39 = .ok (.getfield 12, 3) := by decide +kernel
theorem dX5_meetSea_42 : decode cX5_meetSea 42 = .ok (.getfield 160, 3) := by decide +kernel
theorem dX5_meetSea_45 : decode cX5_meetSea 45 = .ok (.iload_n 1, 1) := by decide +kernel
theorem dX5_meetSea_46 : decode cX5_meetSea 46 = .ok (.dup2, 1) := by decide +kernel
theorem dX5_meetSea_47 : decode cX5_meetSea 47 = .ok (.iaload, 1) := by decide +kernel
theorem dX5_meetSea_48 : decode cX5_meetSea 48 = .ok (.bipush 35, 2) := by decide +kernel
theorem dX5_meetSea_50 : decode cX5_meetSea 50 = .ok (.iload_n 2, 1) := by decide +kernel
theorem dX5_meetSea_51 : decode cX5_meetSea 51 = .ok (.imul, 1) := by decide +kernel
theorem dX5_meetSea_52 : decode cX5_meetSea 52 = .ok (.iadd, 1) := by decide +kernel
theorem dX5_meetSea_53 : decode cX5_meetSea 53 = .ok (.iastore, 1) := by decide +kernel
theorem dX5_meetSea_54 : decode cX5_meetSea 54 = .ok (.aload_n 0, 1) := by decide +kernel
theorem dX5_meetSea_55 : decode cX5_meetSea 55 = .ok (.getfield 35, 3) := by decide +kernel
theorem dX5_meetSea_58 : decode cX5_meetSea 58 = .ok (.getfield 147, 3) := by decide +kernel
theorem dX5_meetSea_61 : decode cX5_meetSea 61 = .ok (.bipush 6, 2) := by decide +kernel
theorem dX5_meetSea_63 : decode cX5_meetSea 63 = .ok (.dup2, 1) := by decide +kernel
theorem dX5_meetSea_64 : decode cX5_meetSea 64 = .ok (.laload, 1) := by decide +kernel
theorem dX5_meetSea_65 : decode cX5_meetSea 65 = .ok (.iload_n 2, 1) := by decide +kernel
theorem dX5_meetSea_66 : decode cX5_meetSea 66 = .ok (.i2l, 1) := by decide +kernel
theorem dX5_meetSea_67 : decode cX5_meetSea 67 = .ok (.ladd, 1) := by decide +kernel
theorem dX5_meetSea_68 : decode cX5_meetSea 68 = .ok (.lastore, 1) := by decide +kernel
theorem dX5_meetSea_69 : decode cX5_meetSea 69 = .ok (.goto 43, 3) := by decide +kernel
theorem dX5_meetSea_72 : decode cX5_meetSea 72 = .ok (.iload_n 2, 1) := by decide +kernel
theorem dX5_meetSea_73 : decode cX5_meetSea 73 = .ok (.ineg, 1) := by decide +kernel
theorem dX5_meetSea_74 : decode cX5_meetSea 74 = .ok (.aload_n 0, 1) := by decide +kernel
theorem dX5_meetSea_75 : decode cX5_meetSea 75 = .ok (.getfield 12, 3) := by decide +kernel
theorem dX5_meetSea_78 : decode cX5_meetSea 78 = .ok (.getfield 151, 3) := by decide +kernel
theorem dX5_meetSea_81 : decode cX5_meetSea 81 = .ok (.iload_n 1, 1) := by decide +kernel
theorem dX5_meetSea_82 : decode cX5_meetSea 82 = .ok (.iaload, 1) := by decide +kernel
theorem dX5_meetSea_83 : decode cX5_meetSea 83 = .ok (.invokestatic 207, 3) := by decide +kernel
theorem dX5_meetSea_86 : decode cX5_meetSea 86 = .ok (.istore_n 3, 1) := by decide +kernel
theorem dX5_meetSea_87 : decode cX5_meetSea 87 = .ok (.aload_n 0, 1) := by decide +kernel
theorem dX5_meetSea_88 : decode cX5_meetSea 88 = .ok (.getfield 12, 3) := by decide +kernel
theorem dX5_meetSea_91 : decode cX5_meetSea 91 = .ok (.iload_n 1, 1) := by decide +kernel
theorem dX5_meetSea_92 : decode cX5_meetSea 92 = .ok (.iload_n 3, 1) := by decide +kernel
theorem dX5_meetSea_93 : decode cX5_meetSea 93 = .ok (.invokevirtual 213, 3) := by decide +kernel
theorem dX5_meetSea_96 : decode cX5_meetSea 96 = .ok (.pop, 1) := by decide +kernel
theorem dX5_meetSea_97 : decode cX5_meetSea 97 = .ok (.aload_n 0, 1) := by decide +kernel
theorem dX5_meetSea_98 : decode cX5_meetSea 98 = .ok (.getfield 35, 3) := by decide +kernel
theorem dX5_meetSea_101 : decode cX5_meetSea 101 = .ok (.getfield 147, 3) := by decide +kernel
theorem dX5_meetSea_104 : decode cX5_meetSea 104 = .ok (.bipush 7, 2) := by decide +kernel
theorem dX5_meetSea_106 : decode cX5_meetSea 106 = .ok (.dup2, 1) := by decide +kernel
theorem dX5_meetSea_107 : decode cX5_meetSea 107 = .ok (.laload, 1) := by decide +kernel
theorem dX5_meetSea_108 : decode cX5_meetSea 108 = .ok (.iload_n 3, 1) := by decide +kernel
theorem dX5_meetSea_109 : decode cX5_meetSea 109 = .ok (.i2l, 1) := by decide +kernel
theorem dX5_meetSea_110 : decode cX5_meetSea 110 = .ok (.ladd, 1) := by decide +kernel
theorem dX5_meetSea_111 : decode cX5_meetSea 111 = .ok (.lastore, 1) := by decide +kernel
theorem dX5_meetSea_112 : decode cX5_meetSea 112 = .ok (.return_, 1) := by decide +kernel
theorem dX5_endMonth_0 : decode cX5_endMonth 0 = .ok (.aload_n 0, 1) := by decide +kernel
theorem dX5_endMonth_1 : decode cX5_endMonth 1 = .ok (.dup, 1) := by decide +kernel
theorem dX5_endMonth_2 : decode cX5_endMonth 2 = .ok (.getfield 244, 3) := by decide +kernel
theorem dX5_endMonth_5 : decode cX5_endMonth 5 = .ok (.iconst 1, 1) := by decide +kernel
theorem dX5_endMonth_6 : decode cX5_endMonth 6 = .ok (.iadd, 1) := by decide +kernel
theorem dX5_endMonth_7 : decode cX5_endMonth 7 = .ok (.putfield 244, 3) := by decide +kernel
theorem dX5_endMonth_10 : decode cX5_endMonth 10 = .ok (.aload_n 0, 1) := by decide +kernel
theorem dX5_endMonth_11 : decode cX5_endMonth 11 = .ok (.getfield 244, 3) := by decide +kernel
theorem dX5_endMonth_14 : decode cX5_endMonth 14 = .ok (.bipush 12, 2) := by decide +kernel
theorem dX5_endMonth_16 : decode cX5_endMonth 16 = .ok (.irem, 1) := by decide +kernel
theorem dX5_endMonth_17 : decode cX5_endMonth 17 = .ok (.ifCond .ne 7, 3) := by decide +kernel
theorem dX5_endMonth_20 : decode cX5_endMonth 20 = .ok (.aload_n 0, 1) := by decide +kernel
theorem dX5_endMonth_21 : decode cX5_endMonth 21 = .ok (.invokevirtual 247, 3) := by decide +kernel
theorem dX5_endMonth_24 : decode cX5_endMonth 24 = .ok (.return_, 1) := by decide +kernel
theorem dX5_endYear_0 : decode cX5_endYear 0 = .ok (.iconst 0, 1) := by decide +kernel
theorem dX5_endYear_1 : decode cX5_endYear 1 = .ok (.istore_n 1, 1) := by decide +kernel
theorem dX5_endYear_2 : decode cX5_endYear 2 = .ok (.iload_n 1, 1) := by decide +kernel
theorem dX5_endYear_3 : decode cX5_endYear 3 = .ok (.aload_n 0, 1) := by decide +kernel
theorem dX5_endYear_4 : decode cX5_endYear 4 = .ok (.getfield 28, 3) := by decide +kernel
theorem dX5_endYear_7 : decode cX5_endYear 7 = .ok (.getfield 188, 3) := by decide +kernel
theorem dX5_endYear_10 : decode cX5_endYear 10 = .ok (.if_icmp .ge 34, 3) := by decide +kernel
theorem dX5_endYear_13 : decode cX5_endYear 13 = .ok (.aload_n 0, 1) := by decide +kernel
theorem dX5_endYear_14 : decode cX5_endYear 14 = .ok (.getfield 28, 3) := by decide +kernel
theorem dX5_endYear_17 : decode cX5_endYear 17 = .ok (.iload_n 1, 1) := by decide +kernel
theorem dX5_endYear_18 : decode cX5_endYear 18 = .ok (.invokevirtual 250, 3) := by decide +kernel
theorem dX5_endYear_21 : decode cX5_endYear 21 = .ok (.ifCond .eq 9, 3) := by decide +kernel
theorem dX5_endYear_24 : decode cX5_endYear 24 = .ok (.aload_n 0, 1) := by decide +kernel
theorem dX5_endYear_25 : decode cX5_endYear 25 = .ok (.bipush 102, 2) := by decide +kernel
theorem dX5_endYear_27 : decode cX5_endYear 27 = .ok (.invokevirtual 222, 3) := by decide +kernel
theorem dX5_endYear_30 : decode cX5_endYear 30 = .ok (.aload_n 0, 1) := by decide +kernel
theorem dX5_endYear_31 : decode cX5_endYear 31 = .ok (.getfield 28, 3) := by decide +kernel
theorem dX5_endYear_34 : decode cX5_endYear 34 = .ok (.iload_n 1, 1) := by decide +kernel
theorem dX5_endYear_35 : decode cX5_endYear 35 = .ok (.invokevirtual 254, 3) := by decide +kernel
theorem dX5_endYear_38 : decode cX5_endYear 38 = .ok (.iinc 1 1, 3) := by decide +kernel
theorem dX5_endYear_41 : decode cX5_endYear 41 = .ok (.goto (-39), 3) := by decide +kernel
theorem dX5_endYear_44 : decode cX5_endYear 44 = .ok (.return_, 1) := by decide +kernel
theorem dX6_init_0 : decode cX6_init 0 = .ok (.aload_n 0, 1) := by decide +kernel
theorem dX6_init_1 : decode cX6_init 1 = .ok (.invokespecial 1, 3) := by decide +kernel
theorem dX6_init_4 : decode cX6_init 4 = .ok (.aload_n 0, 1) := by decide +kernel
theorem dX6_init_5 : decode cX6_init 5 = .ok (.new 7, 3) := by decide +kernel
theorem dX6_init_8 : decode cX6_init 8 = .ok (.dup, 1) := by decide +kernel
theorem dX6_init_9 : decode cX6_init 9 = .ok (.iconst (-1), 1) := by decide +kernel
theorem dX6_init_10 : decode cX6_init 10 = .ok (.iconst 1, 1) := by decide +kernel
theorem dX6_init_11 : decode cX6_init 11 = .ok (.invokespecial 11, 3) := by decide +kernel
theorem dX6_init_14 : decode cX6_init 14 = .ok (.putfield 14, 3) := by decide +kernel
theorem dX6_init_17 : decode cX6_init 17 = .ok (.aload_n 0, 1) := by decide +kernel
theorem dX6_init_18 : decode cX6_init 18 = .ok (.new 7, 3) := by decide +kernel
theorem dX6_init_21 : decode cX6_init 21 = .ok (.dup, 1) := by decide +kernel
theorem dX6_init_22 : decode cX6_init 22 = .ok (.iconst (-1), 1) := by decide +kernel
theorem dX6_init_23 : decode cX6_init 23 = .ok (.iconst 0, 1) := by decide +kernel
theorem dX6_init_24 : decode cX6_init 24 = .ok (.invokespecial 11, 3) := by decide +kernel
theorem dX6_init_27 : decode cX6_init 27 = .ok (.putfield 18, 3) := by decide +kernel
theorem dX6_init_30 : decode cX6_init 30 = .ok (.aload_n 0, 1) := by decide +kernel
theorem dX6_init_31 : decode cX6_init 31 = .ok (.bipush 6, 2) := by decide +kernel
theorem dX6_init_33 : decode cX6_init 33 = .ok (.anewarray 7, 3) := by decide +kernel
theorem dX6_init_36 : decode cX6_init 36 = .ok (.putfield 21, 3) := by decide +kernel
theorem dX6_init_39 : decode cX6_init 39 = .ok (.aload_n 0, 1) := by decide +kernel
theorem dX6_init_40 : decode cX6_init 40 = .ok (.new 25, 3) := by decide +kernel
theorem dX6_init_43 : decode cX6_init 43 = .ok (.dup, 1) := by decide +kernel
theorem dX6_init_44 : decode cX6_init 44 = .ok (.invokespecial 27, 3) := by decide +kernel
theorem dX6_init_47 : decode cX6_init 47 = .ok (.putfield 28, 3) := by decide +kernel
theorem dX6_init_50 : decode cX6_init 50 = .ok (.return_, 1) := by decide +kernel
theorem dX6_setCell_0 : decode cX6_setCell 0 = .ok (.iload_n 1, 1) := by decide +kernel
theorem dX6_setCell_1 : decode cX6_setCell 1 = .ok (.bipush 16, 2) := by decide +kernel
theorem dX6_setCell_3 : decode cX6_setCell 3 = .ok (.invokestatic 32, 3) := by decide +kernel
theorem dX6_setCell_6 : decode cX6_setCell 6 = .ok (.iload_n 2, 1) := by decide +kernel
theorem dX6_setCell_7 : decode cX6_setCell 7 = .ok (.bipush (-100), 2) := by decide +kernel
theorem dX6_setCell_9 : decode cX6_setCell 9 = .ok (.bipush 100, 2) := by decide +kernel
theorem dX6_setCell_11 : decode cX6_setCell 11 = .ok (.invokestatic 36, 3) := by decide +kernel
theorem dX6_setCell_14 : decode cX6_setCell 14 = .ok (.iload_n 3, 1) := by decide +kernel
theorem dX6_setCell_15 : decode cX6_setCell 15 = .ok (.iconst 1, 1) := by decide +kernel
theorem dX6_setCell_16 : decode cX6_setCell 16 = .ok (.bipush 50, 2) := by decide +kernel
theorem dX6_setCell_18 : decode cX6_setCell 18 = .ok (.invokestatic 36, 3) := by decide +kernel
theorem dX6_setCell_21 : decode cX6_setCell 21 = .ok (.iload 4, 2) := by decide +kernel
theorem dX6_setCell_23 : decode cX6_setCell 23 = .ok (.iconst 0, 1) := by decide +kernel
theorem dX6_setCell_24 : decode cX6_setCell 24 = .ok (.sipush 5000, 3) := by decide +kernel
theorem dX6_setCell_27 : decode cX6_setCell 27 = .ok (.invokestatic 36, 3) := by decide +kernel
theorem dX6_setCell_30 : decode cX6_setCell 30 = .ok (.aload_n 0, 1) := by decide +kernel
theorem dX6_setCell_31 : decode cX6_setCell 31 = .ok (.getfield 14, 3) := by decide +kernel
theorem dX6_setCell_34 : decode cX6_setCell 34 = .ok (.getfield 40, 3) := by decide +kernel
theorem dX6_setCell_37 : decode cX6_setCell 37 = .ok (.getfield 44, 3) := by decide +kernel
theorem dX6_setCell_40 : decode cX6_setCell 40 = .ok (.iload_n 1, 1) := by decide +kernel
theorem dX6_setCell_41 : decode cX6_setCell 41 = .ok (.iaload, 1) := by decide +kernel
theorem dX6_setCell_42 : decode cX6_setCell 42 = .ok (.istore 5, 2) := by decide +kernel
theorem dX6_setCell_44 : decode cX6_setCell 44 = .ok (.aload_n 0, 1) := by decide +kernel
theorem dX6_setCell_45 : decode cX6_setCell 45 = .ok (.new 50, 3) := by decide +kernel
theorem dX6_setCell_48 : decode cX6_setCell 48 = .ok (.dup, 1) := by decide +kernel
theorem dX6_setCell_49 : decode cX6_setCell 49 = .ok (.iconst 0, 1) := by decide +kernel
theorem dX6_setCell_50 : decode cX6_setCell 50 = .ok (.iload_n 1, 1) := by decide +kernel
theorem dX6_setCell_51 : decode cX6_setCell 51 = .ok (.iload_n 2, 1) := by decide +kernel
theorem dX6_setCell_52 : decode cX6_setCell 52 = .ok (.iload_n 3, 1) := by decide +kernel
theorem dX6_setCell_53 : decode cX6_setCell 53 = .ok (.iload 4, 2) := by decide +kernel
theorem dX6_setCell_55 : decode cX6_setCell 55 = .ok (.invokespecial 52, 3) := by decide +kernel
theorem dX6_setCell_58 : decode cX6_setCell 58 = .ok (.invokevirtual 55, 3) := by decide +kernel
theorem dX6_setCell_61 : decode cX6_setCell 61 = .ok (.iload 5, 2) := by decide +kernel
theorem dX6_setCell_63 : decode cX6_setCell 63 = .ok (.ireturn, 1) := by decide +kernel
theorem dX6_setGround_0 : decode cX6_setGround 0 = .ok (.iload_n 1, 1) := by decide +kernel
theorem dX6_setGround_1 : decode cX6_setGround 1 = .ok (.bipush 8, 2) := by decide +kernel
theorem dX6_setGround_3 : decode cX6_setGround 3 = .ok (.invokestatic 32, 3) := by decide +kernel
theorem dX6_setGround_6 : decode cX6_setGround 6 = .ok (.iload_n 2, 1) := by decide +kernel
theorem dX6_setGround_7 : decode cX6_setGround 7 = .ok (.bipush (-100), 2) := by decide +kernel
theorem dX6_setGround_9 : decode cX6_setGround 9 = .ok (.sipush 200, 3) := by decide +kernel
theorem dX6_setGround_12 : decode cX6_setGround 12 = .ok (.invokestatic 36, 3) := by decide +kernel
theorem dX6_setGround_15 : decode cX6_setGround 15 = .ok (.aload_n 0, 1) := by decide +kernel
theorem dX6_setGround_16 : decode cX6_setGround 16 = .ok (.getfield 14, 3) := by decide +kernel
theorem dX6_setGround_19 : decode cX6_setGround 19 = .ok (.getfield 59, 3) := by decide +kernel
theorem dX6_setGround_22 : decode cX6_setGround 22 = .ok (.getfield 63, 3) := by decide +kernel
theorem dX6_setGround_25 : decode cX6_setGround 25 = .ok (.iload_n 1, 1) := by decide +kernel
theorem dX6_setGround_26 : decode cX6_setGround 26 = .ok (.iaload, 1) := by decide +kernel
theorem dX6_setGround_27 : decode cX6_setGround 27 = .ok (.istore_n 3, 1) := by decide +kernel
theorem dX6_setGround_28 : decode cX6_setGround 28 = .ok (.aload_n 0, 1) := by decide +kernel
theorem dX6_setGround_29 : decode cX6_setGround 29 = .ok (.new 50, 3) := by decide +kernel
theorem dX6_setGround_32 : decode cX6_setGround 32 = .ok (.dup, 1) := by decide +kernel
theorem dX6_setGround_33 : decode cX6_setGround 33 = .ok (.iconst 1, 1) := by decide +kernel
theorem dX6_setGround_34 : decode cX6_setGround 34 = .ok (.iload_n 1, 1) := by decide +kernel
theorem dX6_setGround_35 : decode cX6_setGround 35 = .ok (.iload_n 2, 1) := by decide +kernel
theorem dX6_setGround_36 : decode cX6_setGround 36 = .ok (.iconst 0, 1) := by decide +kernel
theorem dX6_setGround_37 : decode cX6_setGround 37 = .ok (.iconst 0, 1) := by decide +kernel
theorem dX6_setGround_38 : decode cX6_setGround 38 = .ok (.invokespecial 52, 3) := by decide +kernel
theorem dX6_setGround_41 : decode cX6_setGround 41 = .ok (.invokevirtual 55, 3) := by decide +kernel
theorem dX6_setGround_44 : decode cX6_setGround 44 = .ok (.iload_n 3, 1) := by decide +kernel
theorem dX6_setGround_45 : decode cX6_setGround 45 = .ok (.ireturn, 1) := by decide +kernel
theorem dX6_setConductance_0 : decode cX6_setConductance 0 = .ok (.iload_n 1, 1) := by decide +kernel
theorem dX6_setConductance_1 : decode cX6_setConductance 1 = .ok (.iconst 2, 1) := by decide +kernel
theorem dX6_setConductance_2 : decode cX6_setConductance 2 = .ok (.invokestatic 32, 3) := by decide +kernel
theorem dX6_setConductance_5 : decode cX6_setConductance 5 = .ok (.iload_n 2, 1) := by decide +kernel
theorem dX6_setConductance_6 : decode cX6_setConductance 6 = .ok (.iconst 0, 1) := by decide +kernel
theorem dX6_setConductance_7 : decode cX6_setConductance 7 = .ok (.bipush 9, 2) := by decide +kernel
theorem dX6_setConductance_9 : decode cX6_setConductance 9 = .ok (.invokestatic 36, 3) := by decide +kernel
theorem dX6_setConductance_12 : decode cX6_setConductance 12 = .ok (.aload_n 0, 1) := by decide +kernel
theorem dX6_setConductance_13 : decode cX6_setConductance 13 = .ok (.getfield 14, 3) := by decide +kernel
theorem dX6_setConductance_16 : decode cX6_setConductance 16 = .ok (.getfield 59, 3) := by decide +kernel
theorem dX6_setConductance_19 : decode cX6_setConductance 19 = .ok (.getfield 68, 3) := by decide +kernel
theorem dX6_setConductance_22 : decode cX6_setConductance 22 = .ok (.iload_n 1, 1) := by decide +kernel
theorem dX6_setConductance_23 : decode cX6_setConductance 23 = .ok (.iaload, 1) := by decide +kernel
theorem dX6_setConductance_24 : decode cX6_setConductance 24 = .ok (.istore_n 3, 1) := by decide +kernel
theorem dX6_setConductance_25 : decode cX6_setConductance 25 = .ok (.aload_n 0, 1) := by decide +kernel
theorem dX6_setConductance_26 : decode cX6_setConductance 26 = .ok (.new 50, 3) := by decide +kernel
theorem dX6_setConductance_29 : decode cX6_setConductance 29 = .ok (.dup, 1) := by decide +kernel
theorem dX6_setConductance_30 : decode cX6_setConductance 30 = .ok (.iconst 2, 1) := by decide +kernel
theorem dX6_setConductance_31 : decode cX6_setConductance 31 = .ok (.iload_n 1, 1) := by decide +kernel
theorem dX6_setConductance_32 : decode cX6_setConductance 32 = .ok (.iload_n 2, 1) := by decide +kernel
theorem dX6_setConductance_33 : decode cX6_setConductance 33 = .ok (.iconst 0, 1) := by decide +kernel
theorem dX6_setConductance_34 : decode cX6_setConductance 34 = .ok (.iconst 0, 1) := by decide +kernel
theorem dX6_setConductance_35 : decode cX6_setConductance 35 = .ok (.invokespecial 52, 3) := by decide +kernel
theorem dX6_setConductance_38 : decode cX6_setConductance 38 = .ok (.invokevirtual 55, 3) := by decide +kernel
theorem dX6_setConductance_41 : decode cX6_setConductance 41 = .ok (.iload_n 3, 1) := by decide +kernel
theorem dX6_setConductance_42 : decode cX6_setConductance 42 = .ok (.ireturn, 1) := by decide +kernel
theorem dX6_setLeakage_0 : decode cX6_setLeakage 0 = .ok (.iload_n 1, 1) := by decide +kernel
theorem dX6_setLeakage_1 : decode cX6_setLeakage 1 = .ok (.bipush 8, 2) := by decide +kernel
theorem dX6_setLeakage_3 : decode cX6_setLeakage 3 = .ok (.invokestatic 32, 3) := by decide +kernel
theorem dX6_setLeakage_6 : decode cX6_setLeakage 6 = .ok (.iload_n 2, 1) := by decide +kernel
theorem dX6_setLeakage_7 : decode cX6_setLeakage 7 = .ok (.iconst 0, 1) := by decide +kernel
theorem dX6_setLeakage_8 : decode cX6_setLeakage 8 = .ok (.bipush 9, 2) := by decide +kernel
theorem dX6_setLeakage_10 : decode cX6_setLeakage 10 = .ok (.invokestatic 36, 3) := by decide +kernel
theorem dX6_setLeakage_13 : decode cX6_setLeakage 13 = .ok (.aload_n 0, 1) := by decide +kernel
theorem dX6_setLeakage_14 : decode cX6_setLeakage 14 = .ok (.getfield 14, 3) := by decide +kernel
theorem dX6_setLeakage_17 : decode cX6_setLeakage 17 = .ok (.getfield 59, 3) := by decide +kernel
theorem dX6_setLeakage_20 : decode cX6_setLeakage 20 = .ok (.getfield 71, 3) := by decide +kernel
theorem dX6_setLeakage_23 : decode cX6_setLeakage 23 = .ok (.iload_n 1, 1) := by decide +kernel
theorem dX6_setLeakage_24 : decode cX6_setLeakage 24 = .ok (.iaload, 1) := by decide +kernel
theorem dX6_setLeakage_25 : decode cX6_setLeakage 25 = .ok (.istore_n 3, 1) := by decide +kernel
theorem dX6_setLeakage_26 : decode cX6_setLeakage 26 = .ok (.aload_n 0, 1) := by decide +kernel
theorem dX6_setLeakage_27 : decode cX6_setLeakage 27 = .ok (.new 50, 3) := by decide +kernel
theorem dX6_setLeakage_30 : decode cX6_setLeakage 30 = .ok (.dup, 1) := by decide +kernel
theorem dX6_setLeakage_31 : decode cX6_setLeakage 31 = .ok (.iconst 3, 1) := by decide +kernel
theorem dX6_setLeakage_32 : decode cX6_setLeakage 32 = .ok (.iload_n 1, 1) := by decide +kernel
theorem dX6_setLeakage_33 : decode cX6_setLeakage 33 = .ok (.iload_n 2, 1) := by decide +kernel
theorem dX6_setLeakage_34 : decode cX6_setLeakage 34 = .ok (.iconst 0, 1) := by decide +kernel
theorem dX6_setLeakage_35 : decode cX6_setLeakage 35 = .ok (.iconst 0, 1) := by decide +kernel
theorem dX6_setLeakage_36 : decode cX6_setLeakage 36 = .ok (.invokespecial 52, 3) := by decide +kernel
theorem dX6_setLeakage_39 : decode cX6_setLeakage 39 = .ok (.invokevirtual 55, 3) := by decide +kernel
theorem dX6_setLeakage_42 : decode cX6_setLeakage 42 = .ok (.iload_n 3, 1) := by decide +kernel
theorem dX6_setLeakage_43 : decode cX6_setLeakage 43 = .ok (.ireturn, 1) := by decide +kernel
theorem dX6_setRain_0 : decode cX6_setRain 0 = .ok (.iload_n 1, 1) := by decide +kernel
theorem dX6_setRain_1 : decode cX6_setRain 1 = .ok (.bipush 8, 2) := by decide +kernel
theorem dX6_setRain_3 : decode cX6_setRain 3 = .ok (.invokestatic 32, 3) := by decide +kernel
theorem dX6_setRain_6 : decode cX6_setRain 6 = .ok (.iload_n 2, 1) := by decide +kernel
theorem dX6_setRain_7 : decode cX6_setRain 7 = .ok (.iconst 0, 1) := by decide +kernel
theorem dX6_setRain_8 : decode cX6_setRain 8 = .ok (.bipush 99, 2) := by decide +kernel
theorem dX6_setRain_10 : decode cX6_setRain 10 = .ok (.invokestatic 36, 3) := by decide +kernel
theorem dX6_setRain_13 : decode cX6_setRain 13 = .ok (.aload_n 0, 1) := by decide +kernel
theorem dX6_setRain_14 : decode cX6_setRain 14 = .ok (.getfield 14, 3) := by decide +kernel
theorem dX6_setRain_17 : decode cX6_setRain 17 = .ok (.getfield 59, 3) := by decide +kernel
theorem dX6_setRain_20 : decode cX6_setRain 20 = .ok (.getfield 74, 3) := by decide +kernel
theorem dX6_setRain_23 : decode cX6_setRain 23 = .ok (.iload_n 1, 1) := by decide +kernel
theorem dX6_setRain_24 : decode cX6_setRain 24 = .ok (.iaload, 1) := by decide +kernel
theorem dX6_setRain_25 : decode cX6_setRain 25 = .ok (.istore_n 3, 1) := by decide +kernel
theorem dX6_setRain_26 : decode cX6_setRain 26 = .ok (.aload_n 0, 1) := by decide +kernel
theorem dX6_setRain_27 : decode cX6_setRain 27 = .ok (.new 50, 3) := by decide +kernel
theorem dX6_setRain_30 : decode cX6_setRain 30 = .ok (.dup, 1) := by decide +kernel
theorem dX6_setRain_31 : decode cX6_setRain 31 = .ok (.iconst 4, 1) := by decide +kernel
theorem dX6_setRain_32 : decode cX6_setRain 32 = .ok (.iload_n 1, 1) := by decide +kernel
theorem dX6_setRain_33 : decode cX6_setRain 33 = .ok (.iload_n 2, 1) := by decide +kernel
theorem dX6_setRain_34 : decode cX6_setRain 34 = .ok (.iconst 0, 1) := by decide +kernel
theorem dX6_setRain_35 : decode cX6_setRain 35 = .ok (.iconst 0, 1) := by decide +kernel
theorem dX6_setRain_36 : decode cX6_setRain 36 = .ok (.invokespecial 52, 3) := by decide +kernel
theorem dX6_setRain_39 : decode cX6_setRain 39 = .ok (.invokevirtual 55, 3) := by decide +kernel
theorem dX6_setRain_42 : decode cX6_setRain 42 = .ok (.iload_n 3, 1) := by decide +kernel
theorem dX6_setRain_43 : decode cX6_setRain 43 = .ok (.ireturn, 1) := by decide +kernel
theorem dX6_setBed_0 : decode cX6_setBed 0 = .ok (.iload_n 1, 1) := by decide +kernel
theorem dX6_setBed_1 : decode cX6_setBed 1 = .ok (.bipush 8, 2) := by decide +kernel
theorem dX6_setBed_3 : decode cX6_setBed 3 = .ok (.invokestatic 32, 3) := by decide +kernel
theorem dX6_setBed_6 : decode cX6_setBed 6 = .ok (.iload_n 2, 1) := by decide +kernel
theorem dX6_setBed_7 : decode cX6_setBed 7 = .ok (.bipush (-100), 2) := by decide +kernel
theorem dX6_setBed_9 : decode cX6_setBed 9 = .ok (.bipush 100, 2) := by decide +kernel
theorem dX6_setBed_11 : decode cX6_setBed 11 = .ok (.invokestatic 36, 3) := by decide +kernel
theorem dX6_setBed_14 : decode cX6_setBed 14 = .ok (.iload_n 3, 1) := by decide +kernel
theorem dX6_setBed_15 : decode cX6_setBed 15 = .ok (.iconst 0, 1) := by decide +kernel
theorem dX6_setBed_16 : decode cX6_setBed 16 = .ok (.bipush 9, 2) := by decide +kernel
theorem dX6_setBed_18 : decode cX6_setBed 18 = .ok (.invokestatic 36, 3) := by decide +kernel
theorem dX6_setBed_21 : decode cX6_setBed 21 = .ok (.aload_n 0, 1) := by decide +kernel
theorem dX6_setBed_22 : decode cX6_setBed 22 = .ok (.getfield 14, 3) := by decide +kernel
theorem dX6_setBed_25 : decode cX6_setBed 25 = .ok (.getfield 59, 3) := by decide +kernel
theorem dX6_setBed_28 : decode cX6_setBed 28 = .ok (.getfield 77, 3) := by decide +kernel
theorem dX6_setBed_31 : decode cX6_setBed 31 = .ok (.iload_n 1, 1) := by decide +kernel
theorem dX6_setBed_32 : decode cX6_setBed 32 = .ok (.iaload, 1) := by decide +kernel
theorem dX6_setBed_33 : decode cX6_setBed 33 = .ok (.istore 4, 2) := by decide +kernel
theorem dX6_setBed_35 : decode cX6_setBed 35 = .ok (.aload_n 0, 1) := by decide +kernel
theorem dX6_setBed_36 : decode cX6_setBed 36 = .ok (.new 50, 3) := by decide +kernel
theorem dX6_setBed_39 : decode cX6_setBed 39 = .ok (.dup, 1) := by decide +kernel
theorem dX6_setBed_40 : decode cX6_setBed 40 = .ok (.iconst 5, 1) := by decide +kernel
theorem dX6_setBed_41 : decode cX6_setBed 41 = .ok (.iload_n 1, 1) := by decide +kernel
theorem dX6_setBed_42 : decode cX6_setBed 42 = .ok (.iload_n 2, 1) := by decide +kernel
theorem dX6_setBed_43 : decode cX6_setBed 43 = .ok (.iload_n 3, 1) := by decide +kernel
theorem dX6_setBed_44 : decode cX6_setBed 44 = .ok (.iconst 0, 1) := by decide +kernel
theorem dX6_setBed_45 : decode cX6_setBed 45 = .ok (.invokespecial 52, 3) := by decide +kernel
theorem dX6_setBed_48 : decode cX6_setBed 48 = .ok (.invokevirtual 55, 3) := by decide +kernel
theorem dX6_setBed_51 : decode cX6_setBed 51 = .ok (.iload 4, 2) := by decide +kernel
theorem dX6_setBed_53 : decode cX6_setBed 53 = .ok (.ireturn, 1) := by decide +kernel
theorem dX6_setRiver_0 : decode cX6_setRiver 0 = .ok (.iload_n 1, 1) := by decide +kernel
theorem dX6_setRiver_1 : decode cX6_setRiver 1 = .ok (.iconst 0, 1) := by decide +kernel
theorem dX6_setRiver_2 : decode cX6_setRiver 2 = .ok (.sipush 999, 3) := by decide +kernel
theorem dX6_setRiver_5 : decode cX6_setRiver 5 = .ok (.invokestatic 36, 3) := by decide +kernel
theorem dX6_setRiver_8 : decode cX6_setRiver 8 = .ok (.aload_n 0, 1) := by decide +kernel
theorem dX6_setRiver_9 : decode cX6_setRiver 9 = .ok (.getfield 14, 3) := by decide +kernel
theorem dX6_setRiver_12 : decode cX6_setRiver 12 = .ok (.getfield 59, 3) := by decide +kernel
theorem dX6_setRiver_15 : decode cX6_setRiver 15 = .ok (.getfield 80, 3) := by decide +kernel
theorem dX6_setRiver_18 : decode cX6_setRiver 18 = .ok (.istore_n 2, 1) := by decide +kernel
theorem dX6_setRiver_19 : decode cX6_setRiver 19 = .ok (.aload_n 0, 1) := by decide +kernel
theorem dX6_setRiver_20 : decode cX6_setRiver 20 = .ok (.new 50, 3) := by decide +kernel
theorem dX6_setRiver_23 : decode cX6_setRiver 23 = .ok (.dup, 1) := by decide +kernel
theorem dX6_setRiver_24 : decode cX6_setRiver 24 = .ok (.bipush 6, 2) := by decide +kernel
theorem dX6_setRiver_26 : decode cX6_setRiver 26 = .ok (.iload_n 1, 1) := by decide +kernel
theorem dX6_setRiver_27 : decode cX6_setRiver 27 = .ok (.iconst 0, 1) := by decide +kernel
theorem dX6_setRiver_28 : decode cX6_setRiver 28 = .ok (.iconst 0, 1) := by decide +kernel
theorem dX6_setRiver_29 : decode cX6_setRiver 29 = .ok (.iconst 0, 1) := by decide +kernel
theorem dX6_setRiver_30 : decode cX6_setRiver 30 = .ok (.invokespecial 52, 3) := by decide +kernel
theorem dX6_setRiver_33 : decode cX6_setRiver 33 = .ok (.invokevirtual 55, 3) := by decide +kernel
theorem dX6_setRiver_36 : decode cX6_setRiver 36 = .ok (.iload_n 2, 1) := by decide +kernel
theorem dX6_setRiver_37 : decode cX6_setRiver 37 = .ok (.ireturn, 1) := by decide +kernel
theorem dX6_setSea_0 : decode cX6_setSea 0 = .ok (.iload_n 1, 1) := by decide +kernel
theorem dX6_setSea_1 : decode cX6_setSea 1 = .ok (.iconst 0, 1) := by decide +kernel
theorem dX6_setSea_2 : decode cX6_setSea 2 = .ok (.bipush 9, 2) := by decide +kernel
theorem dX6_setSea_4 : decode cX6_setSea 4 = .ok (.invokestatic 36, 3) := by decide +kernel
theorem dX6_setSea_7 : decode cX6_setSea 7 = .ok (.aload_n 0, 1) := by decide +kernel
theorem dX6_setSea_8 : decode cX6_setSea 8 = .ok (.getfield 14, 3) := by decide +kernel
theorem dX6_setSea_11 : decode cX6_setSea 11 = .ok (.getfield 59, 3) := by decide +kernel
theorem dX6_setSea_14 : decode cX6_setSea 14 = .ok (.getfield 84, 3) := by decide +kernel
theorem dX6_setSea_17 : decode cX6_setSea 17 = .ok (.istore_n 2, 1) := by decide +kernel
theorem dX6_setSea_18 : decode cX6_setSea 18 = .ok (.aload_n 0, 1) := by decide +kernel
theorem dX6_setSea_19 : decode cX6_setSea 19 = .ok (.new 50, 3) := by decide +kernel
theorem dX6_setSea_22 : decode cX6_setSea 22 = .ok (.dup, 1) := by decide +kernel
theorem dX6_setSea_23 : decode cX6_setSea 23 = .ok (.bipush 7, 2) := by decide +kernel
theorem dX6_setSea_25 : decode cX6_setSea 25 = .ok (.iload_n 1, 1) := by decide +kernel
theorem dX6_setSea_26 : decode cX6_setSea 26 = .ok (.iconst 0, 1) := by decide +kernel
theorem dX6_setSea_27 : decode cX6_setSea 27 = .ok (.iconst 0, 1) := by decide +kernel
theorem dX6_setSea_28 : decode cX6_setSea 28 = .ok (.iconst 0, 1) := by decide +kernel
theorem dX6_setSea_29 : decode cX6_setSea 29 = .ok (.invokespecial 52, 3) := by decide +kernel
theorem dX6_setSea_32 : decode cX6_setSea 32 = .ok (.invokevirtual 55, 3) := by decide +kernel
theorem dX6_setSea_35 : decode cX6_setSea 35 = .ok (.iload_n 2, 1) := by decide +kernel
theorem dX6_setSea_36 : decode cX6_setSea 36 = .ok (.ireturn, 1) := by decide +kernel
theorem dX6_addWell_0 : decode cX6_addWell 0 = .ok (.iload_n 1, 1) := by decide +kernel
theorem dX6_addWell_1 : decode cX6_addWell 1 = .ok (.bipush 16, 2) := by decide +kernel
theorem dX6_addWell_3 : decode cX6_addWell 3 = .ok (.invokestatic 32, 3) := by decide +kernel
theorem dX6_addWell_6 : decode cX6_addWell 6 = .ok (.iload_n 2, 1) := by decide +kernel
theorem dX6_addWell_7 : decode cX6_addWell 7 = .ok (.iconst 0, 1) := by decide +kernel
theorem dX6_addWell_8 : decode cX6_addWell 8 = .ok (.sipush 9999, 3) := by decide +kernel
theorem dX6_addWell_11 : decode cX6_addWell 11 = .ok (.invokestatic 36, 3) := by decide +kernel
theorem dX6_addWell_14 : decode cX6_addWell 14 = .ok (.iload_n 3, 1) := by decide +kernel
theorem dX6_addWell_15 : decode cX6_addWell 15 = .ok (.iconst 0, 1) := by decide +kernel
theorem dX6_addWell_16 : decode cX6_addWell 16 = .ok (.sipush 999, 3) := by decide +kernel
theorem dX6_addWell_19 : decode cX6_addWell 19 = .ok (.invokestatic 36, 3) := by decide +kernel
theorem dX6_addWell_22 : decode cX6_addWell 22 = .ok (.aload_n 0, 1) := by decide +kernel
theorem dX6_addWell_23 : decode cX6_addWell 23 = .ok (.getfield 14, 3) := by decide +kernel
theorem dX6_addWell_26 : decode cX6_addWell 26 = .ok (.getfield 87, 3) := by decide +kernel
theorem dX6_addWell_29 : decode cX6_addWell 29 = .ok (.getfield 91, 3) := by decide +kernel
theorem dX6_addWell_32 : decode cX6_addWell 32 = .ok (.istore 4, 2) := by decide +kernel
theorem dX6_addWell_34 : decode cX6_addWell 34 = .ok (.iload 4, 2) := by decide +kernel
theorem dX6_addWell_36 : decode cX6_addWell 36 = .ok (.bipush 6, 2) := by decide +kernel
theorem dX6_addWell_38 : decode cX6_addWell 38 = .ok (.if_icmp .lt 13, 3) := by decide +kernel
theorem dX6_addWell_41 : decode cX6_addWell 41 = .ok (.new 96, 3) := by decide +kernel
theorem dX6_addWell_44 : decode cX6_addWell 44 = .ok (.dup, 1) := by decide +kernel
theorem dX6_addWell_45 : decode cX6_addWell 45 = .ok (.ldc 98, 2) := by decide +kernel
theorem dX6_addWell_47 : decode cX6_addWell 47 = .ok (.invokespecial 100, 3) := by decide +kernel
theorem dX6_addWell_50 : decode cX6_addWell 50 = .ok (.athrow, 1) := by decide +kernel
theorem dX6_addWell_51 : decode cX6_addWell 51 = .ok (.aload_n 0, 1) := by decide +kernel
theorem dX6_addWell_52 : decode cX6_addWell 52 = .ok (.new 50, 3) := by decide +kernel
theorem dX6_addWell_55 : decode cX6_addWell 55 = .ok (.dup, 1) := by decide +kernel
theorem dX6_addWell_56 : decode cX6_addWell 56 = .ok (.bipush 8, 2) := by decide +kernel
theorem dX6_addWell_58 : decode cX6_addWell 58 = .ok (.iload_n 1, 1) := by decide +kernel
theorem dX6_addWell_59 : decode cX6_addWell 59 = .ok (.iload_n 2, 1) := by decide +kernel
theorem dX6_addWell_60 : decode cX6_addWell 60 = .ok (.iload_n 3, 1) := by decide +kernel
theorem dX6_addWell_61 : decode cX6_addWell 61 = .ok (.iconst 0, 1) := by decide +kernel
theorem dX6_addWell_62 : decode cX6_addWell 62 = .ok (.invokespecial 52, 3) := by decide +kernel
theorem dX6_addWell_65 : decode cX6_addWell 65 = .ok (.invokevirtual 55, 3) := by decide +kernel
theorem dX6_addWell_68 : decode cX6_addWell 68 = .ok (.iload 4, 2) := by decide +kernel
theorem dX6_addWell_70 : decode cX6_addWell 70 = .ok (.ireturn, 1) := by decide +kernel
theorem dX6_setWish_0 : decode cX6_setWish 0 = .ok (.aload_n 0, 1) := by decide +kernel
theorem dX6_setWish_1 : decode cX6_setWish 1 = .ok (.iload_n 1, 1) := by decide +kernel
theorem dX6_setWish_2 : decode cX6_setWish 2 = .ok (.invokevirtual 103, 3) := by decide +kernel
theorem dX6_setWish_5 : decode cX6_setWish 5 = .ok (.iload_n 2, 1) := by decide +kernel
theorem dX6_setWish_6 : decode cX6_setWish 6 = .ok (.iconst 0, 1) := by decide +kernel
theorem dX6_setWish_7 : decode cX6_setWish 7 = .ok (.bipush 99, 2) := by decide +kernel
theorem dX6_setWish_9 : decode cX6_setWish 9 = .ok (.invokestatic 36, 3) := by decide +kernel
theorem dX6_setWish_12 : decode cX6_setWish 12 = .ok (.aload_n 0, 1) := by decide +kernel
theorem dX6_setWish_13 : decode cX6_setWish 13 = .ok (.getfield 14, 3) := by decide +kernel
theorem dX6_setWish_16 : decode cX6_setWish 16 = .ok (.getfield 87, 3) := by decide +kernel
theorem dX6_setWish_19 : decode cX6_setWish 19 = .ok (.getfield 107, 3) := by decide +kernel
theorem dX6_setWish_22 : decode cX6_setWish 22 = .ok (.iload_n 1, 1) := by decide +kernel
theorem dX6_setWish_23 : decode cX6_setWish 23 = .ok (.iaload, 1) := by decide +kernel
theorem dX6_setWish_24 : decode cX6_setWish 24 = .ok (.istore_n 3, 1) := by decide +kernel
theorem dX6_setWish_25 : decode cX6_setWish 25 = .ok (.aload_n 0, 1) := by decide +kernel
theorem dX6_setWish_26 : decode cX6_setWish 26 = .ok (.new 50, 3) := by decide +kernel
theorem dX6_setWish_29 : decode cX6_setWish 29 = .ok (.dup, 1) := by decide +kernel
theorem dX6_setWish_30 : decode cX6_setWish 30 = .ok (.bipush 9, 2) := by decide +kernel
theorem dX6_setWish_32 : decode cX6_setWish 32 = .ok (.iload_n 1, 1) := by decide +kernel
theorem dX6_setWish_33 : decode cX6_setWish 33 = .ok (.iload_n 2, 1) := by decide +kernel
theorem dX6_setWish_34 : decode cX6_setWish 34 = .ok (.iconst 0, 1) := by decide +kernel
theorem dX6_setWish_35 : decode cX6_setWish 35 = .ok (.iconst 0, 1) := by decide +kernel
theorem dX6_setWish_36 : decode cX6_setWish 36 = .ok (.invokespecial 52, 3) := by decide +kernel
theorem dX6_setWish_39 : decode cX6_setWish 39 = .ok (.invokevirtual 55, 3) := by decide +kernel
theorem dX6_setWish_42 : decode cX6_setWish 42 = .ok (.iload_n 3, 1) := by decide +kernel
theorem dX6_setWish_43 : decode cX6_setWish 43 = .ok (.ireturn, 1) := by decide +kernel
theorem dX6_transfer_0 : decode cX6_transfer 0 = .ok (.aload_n 0, 1) := by decide +kernel
theorem dX6_transfer_1 : decode cX6_transfer 1 = .ok (.iload_n 1, 1) := by decide +kernel
theorem dX6_transfer_2 : decode cX6_transfer 2 = .ok (.invokevirtual 103, 3) := by decide +kernel
theorem dX6_transfer_5 : decode cX6_transfer 5 = .ok (.aload_n 0, 1) := by decide +kernel
theorem dX6_transfer_6 : decode cX6_transfer 6 = .ok (.iload_n 2, 1) := by decide +kernel
theorem dX6_transfer_7 : decode cX6_transfer 7 = .ok (.invokevirtual 103, 3) := by decide +kernel
theorem dX6_transfer_10 : decode cX6_transfer 10 = .ok (.iload_n 3, 1) := by decide +kernel
theorem dX6_transfer_11 : decode cX6_transfer 11 = .ok (.iconst 1, 1) := by decide +kernel
theorem dX6_transfer_12 : decode cX6_transfer 12 = .ok (.sipush 999, 3) := by decide +kernel
theorem dX6_transfer_15 : decode cX6_transfer 15 = .ok (.invokestatic 36, 3) := by decide +kernel
theorem dX6_transfer_18 : decode cX6_transfer 18 = .ok (.aload_n 0, 1) := by decide +kernel
theorem dX6_transfer_19 : decode cX6_transfer 19 = .ok (.getfield 14, 3) := by decide +kernel
theorem dX6_transfer_22 : decode cX6_transfer 22 = .ok (.getfield 87, 3) := by decide +kernel
theorem dX6_transfer_25 : decode cX6_transfer 25 = .ok (.iload_n 1, 1) := by decide +kernel
theorem dX6_transfer_26 : decode cX6_transfer 26 = .ok (.iload_n 2, 1) := by decide +kernel
theorem dX6_transfer_27 : decode cX6_transfer 27 = .ok (.iload_n 3, 1) := by decide +kernel
theorem dX6_transfer_28 : decode cX6_transfer 28 = .ok (.invokevirtual 110, 3) := by decide +kernel
theorem dX6_transfer_31 : decode cX6_transfer 31 = .ok (.ifCond .ne 13, 3) := by decide +kernel
theorem dX6_transfer_34 : decode cX6_transfer 34 = .ok (.new 114, 3) := by decide +kernel
theorem dX6_transfer_37 : decode cX6_transfer 37 = .ok (.dup, 1) := by decide +kernel
theorem dX6_transfer_38 : decode cX6_transfer 38 = .ok (.ldc 116, 2) := by decide +kernel
theorem dX6_transfer_40 : decode cX6_transfer 40 = .ok (.invokespecial 118, 3) := by decide +kernel
theorem dX6_transfer_43 : decode cX6_transfer 43 = .ok (.athrow, 1) := by decide +kernel
theorem dX6_transfer_44 : decode cX6_transfer 44 = .ok (.aload_n 0, 1) := by decide +kernel
theorem dX6_transfer_45 : decode cX6_transfer 45 = .ok (.new 50, 3) := by decide +kernel
theorem dX6_transfer_48 : decode cX6_transfer 48 = .ok (.dup, 1) := by decide +kernel
theorem dX6_transfer_49 : decode cX6_transfer 49 = .ok (.bipush 10, 2) := by decide +kernel
theorem dX6_transfer_51 : decode cX6_transfer 51 = .ok (.iload_n 1, 1) := by decide +kernel
theorem dX6_transfer_52 : decode cX6_transfer 52 = .ok (.iload_n 2, 1) := by decide +kernel
theorem dX6_transfer_53 : decode cX6_transfer 53 = .ok (.iload_n 3, 1) := by decide +kernel
theorem dX6_transfer_54 : decode cX6_transfer 54 = .ok (.iconst 0, 1) := by decide +kernel
theorem dX6_transfer_55 : decode cX6_transfer 55 = .ok (.invokespecial 52, 3) := by decide +kernel
theorem dX6_transfer_58 : decode cX6_transfer 58 = .ok (.invokevirtual 55, 3) := by decide +kernel
theorem dX6_transfer_61 : decode cX6_transfer 61 = .ok (.aload_n 0, 1) := by decide +kernel
theorem dX6_transfer_62 : decode cX6_transfer 62 = .ok (.getfield 14, 3) := by decide +kernel
theorem dX6_transfer_65 : decode cX6_transfer 65 = .ok (.getfield 87, 3) := by decide +kernel
theorem dX6_transfer_68 : decode cX6_transfer 68 = .ok (.getfield 119, 3) := by decide +kernel
theorem dX6_transfer_71 : decode cX6_transfer 71 = .ok (.iload_n 1, 1) := by decide +kernel
theorem dX6_transfer_72 : decode cX6_transfer 72 = .ok (.iaload, 1) := by decide +kernel
theorem dX6_transfer_73 : decode cX6_transfer 73 = .ok (.ireturn, 1) := by decide +kernel
theorem dX6_pass_0 : decode cX6_pass 0 = .ok (.iload_n 1, 1) := by decide +kernel
theorem dX6_pass_1 : decode cX6_pass 1 = .ok (.iconst 1, 1) := by decide +kernel
theorem dX6_pass_2 : decode cX6_pass 2 = .ok (.bipush 24, 2) := by decide +kernel
theorem dX6_pass_4 : decode cX6_pass 4 = .ok (.invokestatic 36, 3) := by decide +kernel
theorem dX6_pass_7 : decode cX6_pass 7 = .ok (.aload_n 0, 1) := by decide +kernel
theorem dX6_pass_8 : decode cX6_pass 8 = .ok (.getfield 14, 3) := by decide +kernel
theorem dX6_pass_11 : decode cX6_pass 11 = .ok (.getfield 122, 3) := by decide +kernel
theorem dX6_pass_14 : decode cX6_pass 14 = .ok (.iload_n 1, 1) := by decide +kernel
theorem dX6_pass_15 : decode cX6_pass 15 = .ok (.iadd, 1) := by decide +kernel
theorem dX6_pass_16 : decode cX6_pass 16 = .ok (.sipush 600, 3) := by decide +kernel
theorem dX6_pass_19 : decode cX6_pass 19 = .ok (.if_icmp .le 13, 3) := by decide +kernel
theorem dX6_pass_22 : decode cX6_pass 22 = .ok (.new 125, 3) := by decide +kernel
theorem dX6_pass_25 : decode cX6_pass 25 = .ok (.dup, 1) := by decide +kernel
theorem dX6_pass_26 : decode cX6_pass 26 = .ok (.ldc 127, 2) := by decide +kernel
theorem dX6_pass_28 : decode cX6_pass 28 = .ok (.invokespecial 129, 3) := by decide +kernel
theorem dX6_pass_31 : decode cX6_pass 31 = .ok (.athrow, 1) := by decide +kernel
theorem dX6_pass_32 : decode cX6_pass 32 = .ok (.aload_n 0, 1) := by decide +kernel
theorem dX6_pass_33 : decode cX6_pass 33 = .ok (.new 50, 3) := by decide +kernel
theorem dX6_pass_36 : decode cX6_pass 36 = .ok (.dup, 1) := by decide +kernel
theorem dX6_pass_37 : decode cX6_pass 37 = .ok (.bipush 11, 2) := by decide +kernel
theorem dX6_pass_39 : decode cX6_pass 39 = .ok (.iload_n 1, 1) := by decide +kernel
theorem dX6_pass_40 : decode cX6_pass 40 = .ok (.iconst 0, 1) := by decide +kernel
theorem dX6_pass_41 : decode cX6_pass 41 = .ok (.iconst 0, 1) := by decide +kernel
theorem dX6_pass_42 : decode cX6_pass 42 = .ok (.iconst 0, 1) := by decide +kernel
theorem dX6_pass_43 : decode cX6_pass 43 = .ok (.invokespecial 52, 3) := by decide +kernel
theorem dX6_pass_46 : decode cX6_pass 46 = .ok (.invokevirtual 55, 3) := by decide +kernel
theorem dX6_pass_49 : decode cX6_pass 49 = .ok (.aload_n 0, 1) := by decide +kernel
theorem dX6_pass_50 : decode cX6_pass 50 = .ok (.getfield 14, 3) := by decide +kernel
theorem dX6_pass_53 : decode cX6_pass 53 = .ok (.getfield 122, 3) := by decide +kernel
theorem dX6_pass_56 : decode cX6_pass 56 = .ok (.ireturn, 1) := by decide +kernel
theorem dX6_level_0 : decode cX6_level 0 = .ok (.iload_n 1, 1) := by decide +kernel
theorem dX6_level_1 : decode cX6_level 1 = .ok (.bipush 16, 2) := by decide +kernel
theorem dX6_level_3 : decode cX6_level 3 = .ok (.invokestatic 32, 3) := by decide +kernel
theorem dX6_level_6 : decode cX6_level 6 = .ok (.aload_n 0, 1) := by decide +kernel
theorem dX6_level_7 : decode cX6_level 7 = .ok (.getfield 14, 3) := by decide +kernel
theorem dX6_level_10 : decode cX6_level 10 = .ok (.getfield 40, 3) := by decide +kernel
theorem dX6_level_13 : decode cX6_level 13 = .ok (.iload_n 1, 1) := by decide +kernel
theorem dX6_level_14 : decode cX6_level 14 = .ok (.invokevirtual 130, 3) := by decide +kernel
theorem dX6_level_17 : decode cX6_level 17 = .ok (.ireturn, 1) := by decide +kernel
theorem dX6_water_0 : decode cX6_water 0 = .ok (.iload_n 1, 1) := by decide +kernel
theorem dX6_water_1 : decode cX6_water 1 = .ok (.bipush 16, 2) := by decide +kernel
theorem dX6_water_3 : decode cX6_water 3 = .ok (.invokestatic 32, 3) := by decide +kernel
theorem dX6_water_6 : decode cX6_water 6 = .ok (.aload_n 0, 1) := by decide +kernel
theorem dX6_water_7 : decode cX6_water 7 = .ok (.getfield 14, 3) := by decide +kernel
theorem dX6_water_10 : decode cX6_water 10 = .ok (.getfield 40, 3) := by decide +kernel
theorem dX6_water_13 : decode cX6_water 13 = .ok (.getfield 44, 3) := by decide +kernel
theorem dX6_water_16 : decode cX6_water 16 = .ok (.iload_n 1, 1) := by decide +kernel
theorem dX6_water_17 : decode cX6_water 17 = .ok (.iaload, 1) := by decide +kernel
theorem dX6_water_18 : decode cX6_water 18 = .ok (.ireturn, 1) := by decide +kernel
theorem dX6_salt_0 : decode cX6_salt 0 = .ok (.iload_n 1, 1) := by decide +kernel
theorem dX6_salt_1 : decode cX6_salt 1 = .ok (.bipush 16, 2) := by decide +kernel
theorem dX6_salt_3 : decode cX6_salt 3 = .ok (.invokestatic 32, 3) := by decide +kernel
theorem dX6_salt_6 : decode cX6_salt 6 = .ok (.aload_n 0, 1) := by decide +kernel
theorem dX6_salt_7 : decode cX6_salt 7 = .ok (.getfield 14, 3) := by decide +kernel
theorem dX6_salt_10 : decode cX6_salt 10 = .ok (.getfield 40, 3) := by decide +kernel
theorem dX6_salt_13 : decode cX6_salt 13 = .ok (.getfield 134, 3) := by decide +kernel
theorem dX6_salt_16 : decode cX6_salt 16 = .ok (.iload_n 1, 1) := by decide +kernel
theorem dX6_salt_17 : decode cX6_salt 17 = .ok (.iaload, 1) := by decide +kernel
theorem dX6_salt_18 : decode cX6_salt 18 = .ok (.ireturn, 1) := by decide +kernel
theorem dX6_amount_0 : decode cX6_amount 0 = .ok (.aload_n 0, 1) := by decide +kernel
theorem dX6_amount_1 : decode cX6_amount 1 = .ok (.iload_n 1, 1) := by decide +kernel
theorem dX6_amount_2 : decode cX6_amount 2 = .ok (.invokevirtual 103, 3) := by decide +kernel
theorem dX6_amount_5 : decode cX6_amount 5 = .ok (.aload_n 0, 1) := by decide +kernel
theorem dX6_amount_6 : decode cX6_amount 6 = .ok (.getfield 14, 3) := by decide +kernel
theorem dX6_amount_9 : decode cX6_amount 9 = .ok (.getfield 87, 3) := by decide +kernel
theorem dX6_amount_12 : decode cX6_amount 12 = .ok (.getfield 119, 3) := by decide +kernel
theorem dX6_amount_15 : decode cX6_amount 15 = .ok (.iload_n 1, 1) := by decide +kernel
theorem dX6_amount_16 : decode cX6_amount 16 = .ok (.iaload, 1) := by decide +kernel
theorem dX6_amount_17 : decode cX6_amount 17 = .ok (.ireturn, 1) := by decide +kernel
theorem dX6_yearly_0 : decode cX6_yearly 0 = .ok (.aload_n 0, 1) := by decide +kernel
theorem dX6_yearly_1 : decode cX6_yearly 1 = .ok (.iload_n 1, 1) := by decide +kernel
theorem dX6_yearly_2 : decode cX6_yearly 2 = .ok (.invokevirtual 103, 3) := by decide +kernel
theorem dX6_yearly_5 : decode cX6_yearly 5 = .ok (.aload_n 0, 1) := by decide +kernel
theorem dX6_yearly_6 : decode cX6_yearly 6 = .ok (.getfield 14, 3) := by decide +kernel
theorem dX6_yearly_9 : decode cX6_yearly 9 = .ok (.getfield 87, 3) := by decide +kernel
theorem dX6_yearly_12 : decode cX6_yearly 12 = .ok (.getfield 137, 3) := by decide +kernel
theorem dX6_yearly_15 : decode cX6_yearly 15 = .ok (.iload_n 1, 1) := by decide +kernel
theorem dX6_yearly_16 : decode cX6_yearly 16 = .ok (.iaload, 1) := by decide +kernel
theorem dX6_yearly_17 : decode cX6_yearly 17 = .ok (.ireturn, 1) := by decide +kernel
theorem dX6_pumped_0 : decode cX6_pumped 0 = .ok (.aload_n 0, 1) := by decide +kernel
theorem dX6_pumped_1 : decode cX6_pumped 1 = .ok (.iload_n 1, 1) := by decide +kernel
theorem dX6_pumped_2 : decode cX6_pumped 2 = .ok (.invokevirtual 103, 3) := by decide +kernel
theorem dX6_pumped_5 : decode cX6_pumped 5 = .ok (.aload_n 0, 1) := by decide +kernel
theorem dX6_pumped_6 : decode cX6_pumped 6 = .ok (.getfield 14, 3) := by decide +kernel
theorem dX6_pumped_9 : decode cX6_pumped 9 = .ok (.getfield 87, 3) := by decide +kernel
theorem dX6_pumped_12 : decode cX6_pumped 12 = .ok (.getfield 140, 3) := by decide +kernel
theorem dX6_pumped_15 : decode cX6_pumped 15 = .ok (.iload_n 1, 1) := by decide +kernel
theorem dX6_pumped_16 : decode cX6_pumped 16 = .ok (.laload, 1) := by decide +kernel
theorem dX6_pumped_17 : decode cX6_pumped 17 = .ok (.lreturn, 1) := by decide +kernel
theorem dX6_isShut_0 : decode cX6_isShut 0 = .ok (.aload_n 0, 1) := by decide +kernel
theorem dX6_isShut_1 : decode cX6_isShut 1 = .ok (.iload_n 1, 1) := by decide +kernel
theorem dX6_isShut_2 : decode cX6_isShut 2 = .ok (.invokevirtual 103, 3) := by decide +kernel
theorem dX6_isShut_5 : decode cX6_isShut 5 = .ok (.aload_n 0, 1) := by decide +kernel
theorem dX6_isShut_6 : decode cX6_isShut 6 = .ok (.getfield 14, 3) := by decide +kernel
theorem dX6_isShut_9 : decode cX6_isShut 9 = .ok (.getfield 87, 3) := by decide +kernel
theorem dX6_isShut_12 : decode cX6_isShut 12 = .ok (.getfield 144, 3) := by decide +kernel
theorem dX6_isShut_15 : decode cX6_isShut 15 = .ok (.iload_n 1, 1) := by decide +kernel
theorem dX6_isShut_16 : decode cX6_isShut 16 = .ok (.baload, 1) := by decide +kernel
theorem dX6_isShut_17 : decode cX6_isShut 17 = .ok (.ireturn, 1) := by decide +kernel
theorem dX6_byAge_0 : decode cX6_byAge 0 = .ok (.iload_n 1, 1) := by decide +kernel
theorem dX6_byAge_1 : decode cX6_byAge 1 = .ok (.ifCond .lt 17, 3) := by decide +kernel
theorem dX6_byAge_4 : decode cX6_byAge 4 = .ok (.iload_n 1, 1) := by decide +kernel
theorem dX6_byAge_5 : decode cX6_byAge 5 = .ok (.aload_n 0, 1) := by decide +kernel
theorem dX6_byAge_6 : decode cX6_byAge 6 = .ok (.getfield 14, 3) := by decide +kernel
theorem dX6_byAge_9 : decode cX6_byAge 9 = .ok (.getfield 87, 3) := by decide +kernel
theorem dX6_byAge_12 : decode cX6_byAge 12 = .ok (.getfield 91, 3) := by decide +kernel
theorem dX6_byAge_15 : decode cX6_byAge 15 = .ok (.if_icmp .lt 13, 3) := by decide +kernel
theorem dX6_byAge_18 : decode cX6_byAge 18 = .ok (.new 148, 3) := by decide +kernel
theorem dX6_byAge_21 : decode cX6_byAge 21 = .ok (.dup, 1) := by decide +kernel
theorem dX6_byAge_22 : decode cX6_byAge 22 = .ok (.ldc 150, 2) := by decide +kernel
theorem dX6_byAge_24 : decode cX6_byAge 24 = .ok (.invokespecial 152, 3) := by decide +kernel
theorem dX6_byAge_27 : decode cX6_byAge 27 = .ok (.athrow, 1) := by decide +kernel
theorem dX6_byAge_28 : decode cX6_byAge 28 = .ok (.aload_n 0, 1) := by decide +kernel
theorem dX6_byAge_29 : decode cX6_byAge 29 = .ok (.getfield 14, 3) := by decide +kernel
theorem dX6_byAge_32 : decode cX6_byAge 32 = .ok (.getfield 87, 3) := by decide +kernel
theorem dX6_byAge_35 : decode cX6_byAge 35 = .ok (.getfield 153, 3) := by decide +kernel
theorem dX6_byAge_38 : decode cX6_byAge 38 = .ok (.iload_n 1, 1) := by decide +kernel
theorem dX6_byAge_39 : decode cX6_byAge 39 = .ok (.iaload, 1) := by decide +kernel
theorem dX6_byAge_40 : decode cX6_byAge 40 = .ok (.ireturn, 1) := by decide +kernel
theorem dX6_pumpedWithout_0 : decode cX6_pumpedWithout 0 = .ok (.aload_n 0, 1) := by decide +kernel
theorem dX6_pumpedWithout_1 : decode cX6_pumpedWithout 1 = .ok (.iload_n 1, 1) := by decide +kernel
theorem dX6_pumpedWithout_2 : decode cX6_pumpedWithout 2 = .ok (.invokevirtual 103, 3) := by decide +kernel
theorem dX6_pumpedWithout_5 : decode cX6_pumpedWithout 5 = .ok (.aload_n 0, 1) := by decide +kernel
theorem dX6_pumpedWithout_6 : decode cX6_pumpedWithout 6 = .ok (.iload_n 2, 1) := by decide +kernel
theorem dX6_pumpedWithout_7 : decode cX6_pumpedWithout 7 = .ok (.invokevirtual 103, 3) := by decide +kernel
theorem dX6_pumpedWithout_10 : decode cX6_pumpedWithout 10 = .ok (.iload_n 1, 1) := by decide +kernel
theorem dX6_pumpedWithout_11 : decode cX6_pumpedWithout 11 = .ok (.iload_n 2, 1) := by decide +kernel
theorem dX6_pumpedWithout_12 : decode cX6_pumpedWithout 12 = .ok (.if_icmp .ne 13, 3) := by decide +kernel
theorem dX6_pumpedWithout_15 : decode cX6_pumpedWithout 15 = .ok (.new 114, 3) := by decide +kernel
theorem dX6_pumpedWithout_18 : decode cX6_pumpedWithout 18 = .ok (.dup, 1) := by decide +kernel
theorem dX6_pumpedWithout_19 : decode cX6_pumpedWithout 19 = .ok (.ldc 156, 2) := by decide +kernel
theorem dX6_pumpedWithout_21 : decode cX6_pumpedWithout 21 = .ok (.invokespecial 118, 3) := by decide +kernel
theorem dX6_pumpedWithout_24 : decode cX6_pumpedWithout 24 = .ok (.athrow, 1) := by decide +kernel
theorem dX6_pumpedWithout_25 : decode cX6_pumpedWithout 25 = .ok (.aload_n 0, 1) := by decide +kernel
theorem dX6_pumpedWithout_26 : decode cX6_pumpedWithout 26 = .ok (.iload_n 2, 1) := by decide +kernel
theorem dX6_pumpedWithout_27 : decode cX6_pumpedWithout 27 = .ok (.invokevirtual 158, 3) := by decide +kernel
theorem dX6_pumpedWithout_30 : decode cX6_pumpedWithout 30 = .ok (.astore_n 3, 1) := by decide +kernel
theorem dX6_pumpedWithout_31 : decode cX6_pumpedWithout 31 = .ok (.aload_n 3, 1) := by decide +kernel
theorem dX6_pumpedWithout_32 : decode cX6_pumpedWithout 32 = .ok (.aload_n 0, 1) := by decide +kernel
theorem dX6_pumpedWithout_33 : decode cX6_pumpedWithout 33 = .ok (.getfield 28, 3) := by decide +kernel
theorem dX6_pumpedWithout_36 : decode cX6_pumpedWithout 36 = .ok (.invokevirtual 162, 3) := by decide +kernel
theorem dX6_pumpedWithout_39 : decode cX6_pumpedWithout 39 = .ok (.aload_n 3, 1) := by decide +kernel
theorem dX6_pumpedWithout_40 : decode cX6_pumpedWithout 40 = .ok (.getfield 87, 3) := by decide +kernel
theorem dX6_pumpedWithout_43 : decode cX6_pumpedWithout 43 = .ok (.getfield 140, 3) := by decide +kernel
theorem dX6_pumpedWithout_46 : decode cX6_pumpedWithout 46 = .ok (.iload_n 1, 1) := by decide +kernel
theorem dX6_pumpedWithout_47 : decode cX6_pumpedWithout 47 = .ok (.laload, 1) := by decide +kernel
theorem dX6_pumpedWithout_48 : decode cX6_pumpedWithout 48 = .ok (.lreturn, 1) := by decide +kernel
theorem dX6_events_0 : decode cX6_events 0 = .ok (.aload_n 0, 1) := by decide +kernel
theorem dX6_events_1 : decode cX6_events 1 = .ok (.getfield 14, 3) := by decide +kernel
theorem dX6_events_4 : decode cX6_events 4 = .ok (.getfield 166, 3) := by decide +kernel
theorem dX6_events_7 : decode cX6_events 7 = .ok (.invokevirtual 170, 3) := by decide +kernel
theorem dX6_events_10 : decode cX6_events 10 = .ok (.ireturn, 1) := by decide +kernel
theorem dX6_eventAt_0 : decode cX6_eventAt 0 = .ok (.iload_n 1, 1) := by decide +kernel
theorem dX6_eventAt_1 : decode cX6_eventAt 1 = .ok (.aload_n 0, 1) := by decide +kernel
theorem dX6_eventAt_2 : decode cX6_eventAt 2 = .ok (.getfield 14, 3) := by decide +kernel
theorem dX6_eventAt_5 : decode cX6_eventAt 5 = .ok (.getfield 166, 3) := by decide +kernel
theorem dX6_eventAt_8 : decode cX6_eventAt 8 = .ok (.invokevirtual 170, 3) := by decide +kernel
theorem dX6_eventAt_11 : decode cX6_eventAt 11 = .ok (.invokestatic 32, 3) := by decide +kernel
theorem dX6_eventAt_14 : decode cX6_eventAt 14 = .ok (.aload_n 0, 1) := by decide +kernel
theorem dX6_eventAt_15 : decode cX6_eventAt 15 = .ok (.getfield 14, 3) := by decide +kernel
theorem dX6_eventAt_18 : decode cX6_eventAt 18 = .ok (.getfield 166, 3) := by decide +kernel
theorem dX6_eventAt_21 : decode cX6_eventAt 21 = .ok (.iload_n 1, 1) := by decide +kernel
theorem dX6_eventAt_22 : decode cX6_eventAt 22 = .ok (.invokevirtual 176, 3) := by decide +kernel
theorem dX6_eventAt_25 : decode cX6_eventAt 25 = .ok (.ireturn, 1) := by decide +kernel
theorem dX6_account_0 : decode cX6_account 0 = .ok (.ldc 182, 2) := by decide +kernel
theorem dX6_account_2 : decode cX6_account 2 = .ok (.iload_n 1, 1) := by decide +kernel
theorem dX6_account_3 : decode cX6_account 3 = .ok (.invokevirtual 184, 3) := by decide +kernel
theorem dX6_account_6 : decode cX6_account 6 = .ok (.istore_n 2, 1) := by decide +kernel
theorem dX6_account_7 : decode cX6_account 7 = .ok (.iload_n 2, 1) := by decide +kernel
theorem dX6_account_8 : decode cX6_account 8 = .ok (.ifCond .ge 13, 3) := by decide +kernel
theorem dX6_account_11 : decode cX6_account 11 = .ok (.new 189, 3) := by decide +kernel
theorem dX6_account_14 : decode cX6_account 14 = .ok (.dup, 1) := by decide +kernel
theorem dX6_account_15 : decode cX6_account 15 = .ok (.ldc 191, 2) := by decide +kernel
theorem dX6_account_17 : decode cX6_account 17 = .ok (.invokespecial 193, 3) := by decide +kernel
theorem dX6_account_20 : decode cX6_account 20 = .ok (.athrow, 1) := by decide +kernel
theorem dX6_account_21 : decode cX6_account 21 = .ok (.aload_n 0, 1) := by decide +kernel
theorem dX6_account_22 : decode cX6_account 22 = .ok (.getfield 14, 3) := by decide +kernel
theorem dX6_account_25 : decode cX6_account 25 = .ok (.getfield 194, 3) := by decide +kernel
theorem dX6_account_28 : decode cX6_account 28 = .ok (.getfield 198, 3) := by decide +kernel
theorem dX6_account_31 : decode cX6_account 31 = .ok (.iload_n 2, 1) := by decide +kernel
theorem dX6_account_32 : decode cX6_account 32 = .ok (.laload, 1) := by decide +kernel
theorem dX6_account_33 : decode cX6_account 33 = .ok (.lreturn, 1) := by decide +kernel
theorem dX6_checksum_0 : decode cX6_checksum 0 = .ok (.lconst 0, 1) := by decide +kernel
theorem dX6_checksum_1 : decode cX6_checksum 1 = .ok (.lstore_n 1, 1) := by decide +kernel
theorem dX6_checksum_2 : decode cX6_checksum 2 = .ok (.iconst 0, 1) := by decide +kernel
theorem dX6_checksum_3 : decode cX6_checksum 3 = .ok (.istore_n 3, 1) := by decide +kernel
theorem dX6_checksum_4 : decode cX6_checksum 4 = .ok (.iload_n 3, 1) := by decide +kernel
theorem dX6_checksum_5 : decode cX6_checksum 5 = .ok (.bipush 16, 2) := by decide +kernel
theorem dX6_checksum_7 : decode cX6_checksum 7 = .ok (.if_icmp .ge 47, 3) := by decide +kernel
theorem dX6_checksum_10 : decode cX6_checksum 10 = .ok (.ldc2_w 201, 3) := by decide +kernel
theorem dX6_checksum_13 : decode cX6_checksum 13 = .ok (.lload_n 1, 1) := by decide +kernel
theorem dX6_checksum_14 : decode cX6_checksum 14 = .ok (.lmul, 1) := by decide +kernel
theorem dX6_checksum_15 : decode cX6_checksum 15 = .ok (.aload_n 0, 1) := by decide +kernel
theorem dX6_checksum_16 : decode cX6_checksum 16 = .ok (.getfield 14, 3) := by decide +kernel
theorem dX6_checksum_19 : decode cX6_checksum 19 = .ok (.getfield 40, 3) := by decide +kernel
theorem dX6_checksum_22 : decode cX6_checksum 22 = .ok (.getfield 44, 3) := by decide +kernel
theorem dX6_checksum_25 : decode cX6_checksum 25 = .ok (.iload_n 3, 1) := by decide +kernel
theorem dX6_checksum_26 : decode cX6_checksum 26 = .ok (.iaload, 1) := by decide +kernel
theorem dX6_checksum_27 : decode cX6_checksum 27 = .ok (.i2l, 1) := by decide +kernel
theorem dX6_checksum_28 : decode cX6_checksum 28 = .ok (.ladd, 1) := by decide +kernel
theorem dX6_checksum_29 : decode cX6_checksum 29 = .ok (.ldc2_w 203, 3) := by decide +kernel
theorem dX6_checksum_32 : decode cX6_checksum 32 = .ok (.aload_n 0, 1) := by decide +kernel
theorem dX6_checksum_33 : decode cX6_checksum 33 = .ok (.getfield 14, 3) := by decide +kernel
theorem dX6_checksum_36 : decode cX6_checksum 36 = .ok (.getfield 40, 3) := by decide +kernel
theorem dX6_checksum_39 : decode cX6_checksum 39 = .ok (.getfield 134, 3) := by decide +kernel
theorem dX6_checksum_42 : decode cX6_checksum 42 = .ok (.iload_n 3, 1) := by decide +kernel
theorem dX6_checksum_43 : decode cX6_checksum 43 = .ok (.iaload, 1) := by decide +kernel
theorem dX6_checksum_44 : decode cX6_checksum 44 = .ok (.i2l, 1) := by decide +kernel
theorem dX6_checksum_45 : decode cX6_checksum 45 = .ok (.lmul, 1) := by decide +kernel
theorem dX6_checksum_46 : decode cX6_checksum 46 = .ok (.ladd, 1) := by decide +kernel
theorem dX6_checksum_47 : decode cX6_checksum 47 = .ok (.lstore_n 1, 1) := by decide +kernel
theorem dX6_checksum_48 : decode cX6_checksum 48 = .ok (.iinc 3 1, 3) := by decide +kernel
theorem dX6_checksum_51 : decode cX6_checksum 51 = .ok (.goto (-47), 3) := by decide +kernel
theorem dX6_checksum_54 : decode cX6_checksum 54 = .ok (.lload_n 1, 1) := by decide +kernel
theorem dX6_checksum_55 : decode cX6_checksum 55 = .ok (.lreturn, 1) := by decide +kernel
theorem dX6_isSound_0 : decode cX6_isSound 0 = .ok (.aload_n 0, 1) := by decide +kernel
theorem dX6_isSound_1 : decode cX6_isSound 1 = .ok (.getfield 18, 3) := by decide +kernel
theorem dX6_isSound_4 : decode cX6_isSound 4 = .ok (.aload_n 0, 1) := by decide +kernel
theorem dX6_isSound_5 : decode cX6_isSound 5 = .ok (.getfield 28, 3) := by decide +kernel
theorem dX6_isSound_8 : decode cX6_isSound 8 = .ok (.invokevirtual 162, 3) := by decide +kernel
theorem dX6_isSound_11 : decode cX6_isSound 11 = .ok (.aload_n 0, 1) := by decide +kernel
theorem dX6_isSound_12 : decode cX6_isSound 12 = .ok (.getfield 14, 3) := by decide +kernel
theorem dX6_isSound_15 : decode cX6_isSound 15 = .ok (.getfield 194, 3) := by decide +kernel
theorem dX6_isSound_18 : decode cX6_isSound 18 = .ok (.aload_n 0, 1) := by decide +kernel
theorem dX6_isSound_19 : decode cX6_isSound 19 = .ok (.getfield 14, 3) := by decide +kernel
theorem dX6_isSound_22 : decode cX6_isSound 22 = .ok (.getfield 40, 3) := by decide +kernel
theorem dX6_isSound_25 : decode cX6_isSound 25 = .ok (.invokevirtual 208, 3) := by decide +kernel
theorem dX6_isSound_28 : decode cX6_isSound 28 = .ok (.invokevirtual 212, 3) := by decide +kernel
theorem dX6_isSound_31 : decode cX6_isSound 31 = .ok (.ifCond .eq 40, 3) := by decide +kernel
theorem dX6_isSound_34 : decode cX6_isSound 34 = .ok (.aload_n 0, 1) := by decide +kernel
theorem dX6_isSound_35 : decode cX6_isSound 35 = .ok (.getfield 14, 3) := by decide +kernel
theorem dX6_isSound_38 : decode cX6_isSound 38 = .ok (.getfield 40, 3) := by decide +kernel
theorem dX6_isSound_41 : decode cX6_isSound 41 = .ok (.aload_n 0, 1) := by decide +kernel
theorem dX6_isSound_42 : decode cX6_isSound 42 = .ok (.getfield 18, 3) := by decide +kernel
theorem dX6_isSound_45 : decode cX6_isSound 45 = .ok (.getfield 40, 3) := by decide +kernel
theorem dX6_isSound_48 : decode cX6_isSound 48 = .ok (.invokevirtual 216, 3) := by decide +kernel
theorem dX6_isSound_51 : decode cX6_isSound 51 = .ok (.ifCond .eq 20, 3) := by decide +kernel
theorem dX6_isSound_54 : decode cX6_isSound 54 = .ok (.aload_n 0, 1) := by decide +kernel
theorem dX6_isSound_55 : decode cX6_isSound 55 = .ok (.getfield 14, 3) := by decide +kernel
theorem dX6_isSound_58 : decode cX6_isSound 58 = .ok (.getfield 87, 3) := by decide +kernel
theorem dX6_isSound_61 : decode cX6_isSound 61 = .ok (.invokevirtual 220, 3) := by decide +kernel
theorem dX6_isSound_64 : decode cX6_isSound 64 = .ok (.ifCond .eq 7, 3) := by decide +kernel
theorem dX6_isSound_67 : decode cX6_isSound 67 = .ok (.iconst 1, 1) := by decide +kernel
theorem dX6_isSound_68 : decode cX6_isSound 68 = .ok (.goto 4, 3) := by decide +kernel
theorem dX6_isSound_71 : decode cX6_isSound 71 = .ok (.iconst 0, 1) := by decide +kernel
theorem dX6_isSound_72 : decode cX6_isSound 72 = .ok (.ireturn, 1) := by decide +kernel
theorem dX6_requireWell_0 : decode cX6_requireWell 0 = .ok (.iload_n 1, 1) := by decide +kernel
theorem dX6_requireWell_1 : decode cX6_requireWell 1 = .ok (.aload_n 0, 1) := by decide +kernel
theorem dX6_requireWell_2 : decode cX6_requireWell 2 = .ok (.getfield 14, 3) := by decide +kernel
theorem dX6_requireWell_5 : decode cX6_requireWell 5 = .ok (.getfield 87, 3) := by decide +kernel
theorem dX6_requireWell_8 : decode cX6_requireWell 8 = .ok (.getfield 91, 3) := by decide +kernel
theorem dX6_requireWell_11 : decode cX6_requireWell 11 = .ok (.invokestatic 32, 3) := by decide +kernel
theorem dX6_requireWell_14 : decode cX6_requireWell 14 = .ok (.return_, 1) := by decide +kernel
theorem dX6_requireIndex_0 : decode cX6_requireIndex 0 = .ok (.iload_n 0, 1) := by decide +kernel
theorem dX6_requireIndex_1 : decode cX6_requireIndex 1 = .ok (.ifCond .lt 8, 3) := by decide +kernel
theorem dX6_requireIndex_4 : decode cX6_requireIndex 4 = .ok (.iload_n 0, 1) := by decide +kernel
theorem dX6_requireIndex_5 : decode cX6_requireIndex 5 = .ok (.iload_n 1, 1) := by decide +kernel
theorem dX6_requireIndex_6 : decode cX6_requireIndex 6 = .ok (.if_icmp .lt 13, 3) := by decide +kernel
theorem dX6_requireIndex_9 : decode cX6_requireIndex 9 = .ok (.new 224, 3) := by decide +kernel
theorem dX6_requireIndex_12 : decode cX6_requireIndex 12 = .ok (.dup, 1) := by decide +kernel
theorem dX6_requireIndex_13 : decode cX6_requireIndex 13 = .ok (.ldc 150, 2) := by decide +kernel
theorem dX6_requireIndex_15 : decode cX6_requireIndex 15 = .ok (.invokespecial 226, 3) := by decide +kernel
theorem dX6_requireIndex_18 : decode cX6_requireIndex 18 = .ok (.athrow, 1) := by decide +kernel
theorem dX6_requireIndex_19 : decode cX6_requireIndex 19 = .ok (.return_, 1) := by decide +kernel
theorem dX6_requireRange_0 : decode cX6_requireRange 0 = .ok (.iload_n 0, 1) := by decide +kernel
theorem dX6_requireRange_1 : decode cX6_requireRange 1 = .ok (.iload_n 1, 1) := by decide +kernel
theorem dX6_requireRange_2 : decode cX6_requireRange 2 = .ok (.if_icmp .lt 8, 3) := by decide +kernel
theorem dX6_requireRange_5 : decode cX6_requireRange 5 = .ok (.iload_n 0, 1) := by decide +kernel
theorem dX6_requireRange_6 : decode cX6_requireRange 6 = .ok (.iload_n 2, 1) := by decide +kernel
theorem dX6_requireRange_7 : decode cX6_requireRange 7 = .ok (.if_icmp .le 13, 3) := by decide +kernel
theorem dX6_requireRange_10 : decode cX6_requireRange 10 = .ok (.new 189, 3) := by decide +kernel
theorem dX6_requireRange_13 : decode cX6_requireRange 13 = .ok (.dup, 1) := by decide +kernel
theorem dX6_requireRange_14 : decode cX6_requireRange 14 = .ok (.ldc 227, 2) := by decide +kernel
theorem dX6_requireRange_16 : decode cX6_requireRange 16 = .ok (.invokespecial 193, 3) := by decide +kernel
theorem dX6_requireRange_19 : decode cX6_requireRange 19 = .ok (.athrow, 1) := by decide +kernel
theorem dX6_requireRange_20 : decode cX6_requireRange 20 = .ok (.return_, 1) := by decide +kernel
theorem dX6_carryOut_0 : decode cX6_carryOut 0 = .ok (.aload_n 0, 1) := by decide +kernel
theorem dX6_carryOut_1 : decode cX6_carryOut 1 = .ok (.getfield 28, 3) := by decide +kernel
theorem dX6_carryOut_4 : decode cX6_carryOut 4 = .ok (.invokevirtual 229, 3) := by decide +kernel
theorem dX6_carryOut_7 : decode cX6_carryOut 7 = .ok (.sipush 512, 3) := by decide +kernel
theorem dX6_carryOut_10 : decode cX6_carryOut 10 = .ok (.if_icmp .ge 12, 3) := by decide +kernel
theorem dX6_carryOut_13 : decode cX6_carryOut 13 = .ok (.aload_n 0, 1) := by decide +kernel
theorem dX6_carryOut_14 : decode cX6_carryOut 14 = .ok (.getfield 28, 3) := by decide +kernel
theorem dX6_carryOut_17 : decode cX6_carryOut 17 = .ok (.aload_n 1, 1) := by decide +kernel
theorem dX6_carryOut_18 : decode cX6_carryOut 18 = .ok (.invokevirtual 232, 3) := by decide +kernel
theorem dX6_carryOut_21 : decode cX6_carryOut 21 = .ok (.pop, 1) := by decide +kernel
theorem dX6_carryOut_22 : decode cX6_carryOut 22 = .ok (.aload_n 0, 1) := by decide +kernel
theorem dX6_carryOut_23 : decode cX6_carryOut 23 = .ok (.getfield 14, 3) := by decide +kernel
theorem dX6_carryOut_26 : decode cX6_carryOut 26 = .ok (.aload_n 1, 1) := by decide +kernel
theorem dX6_carryOut_27 : decode cX6_carryOut 27 = .ok (.invokevirtual 236, 3) := by decide +kernel
theorem dX6_carryOut_30 : decode cX6_carryOut 30 = .ok (.return_, 1) := by decide +kernel
theorem dX6_worldWithout_0 : decode cX6_worldWithout 0 = .ok (.aload_n 0, 1) := by decide +kernel
theorem dX6_worldWithout_1 : decode cX6_worldWithout 1 = .ok (.getfield 21, 3) := by decide +kernel
theorem dX6_worldWithout_4 : decode cX6_worldWithout 4 = .ok (.iload_n 1, 1) := by decide +kernel
theorem dX6_worldWithout_5 : decode cX6_worldWithout 5 = .ok (.aaload, 1) := by decide +kernel
theorem dX6_worldWithout_6 : decode cX6_worldWithout 6 = .ok (.astore_n 2, 1) := by decide +kernel
theorem dX6_worldWithout_7 : decode cX6_worldWithout 7 = .ok (.aload_n 2, 1) := by decide +kernel
theorem dX6_worldWithout_8 : decode cX6_worldWithout 8 = .ok (.ifnonnull 20, 3) := by decide +kernel
theorem dX6_worldWithout_11 : decode cX6_worldWithout 11 = .ok (.new 7, 3) := by decide +kernel
theorem dX6_worldWithout_14 : decode cX6_worldWithout 14 = .ok (.dup, 1) := by decide +kernel
theorem dX6_worldWithout_15 : decode cX6_worldWithout 15 = .ok (.iload_n 1, 1) := by decide +kernel
theorem dX6_worldWithout_16 : decode cX6_worldWithout 16 = .ok (.iconst 0, 1) := by decide +kernel
theorem dX6_worldWithout_17 : decode cX6_worldWithout 17 = .ok (.invokespecial 11, 3) := by decide +kernel
theorem dX6_worldWithout_20 : decode cX6_worldWithout 20 = .ok (.astore_n 2, 1) := by decide +kernel
theorem dX6_worldWithout_21 : decode cX6_worldWithout 21 = .ok (.aload_n 0, 1) := by decide +kernel
theorem dX6_worldWithout_22 : decode cX6_worldWithout 22 = .ok (.getfield 21, 3) := by decide +kernel
theorem dX6_worldWithout_25 : decode cX6_worldWithout 25 = .ok (.iload_n 1, 1) := by decide +kernel
theorem dX6_worldWithout_26 : decode cX6_worldWithout 26 = .ok (.aload_n 2, 1) := by decide +kernel
theorem dX6_worldWithout_27 : decode cX6_worldWithout 27 = .ok (.aastore, 1) := by decide +kernel
theorem dX6_worldWithout_28 : decode cX6_worldWithout 28 = .ok (.aload_n 2, 1) := by decide +kernel
theorem dX6_worldWithout_29 : decode cX6_worldWithout 29 = .ok (.areturn, 1) := by decide +kernel
