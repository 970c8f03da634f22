theorem dX10_rule_0 : decode cX10_rule 0 = .ok (.iload_n 1, 1) := by decide +kernel
theorem dX10_rule_1 : decode cX10_rule 1 = .ok (.tableswitch 81 0 5 #[39, 44, 52, 57, 65, 73], 39) := by decide +kernel
theorem dX10_rule_40 : decode cX10_rule 40 = .ok (.aload_n 0, 1) := by decide +kernel
theorem dX10_rule_41 : decode cX10_rule 41 = .ok (.getfield 84, 3) := by decide +kernel
theorem dX10_rule_44 : decode cX10_rule 44 = .ok (.ireturn, 1) := by decide +kernel
theorem dX10_rule_45 : decode cX10_rule 45 = .ok (.aload_n 0, 1) := by decide +kernel
theorem dX10_rule_46 : decode cX10_rule 46 = .ok (.getfield 7, 3) := by decide +kernel
theorem dX10_rule_49 : decode cX10_rule 49 = .ok (.bipush 8, 2) := by decide +kernel
theorem dX10_rule_51 : decode cX10_rule 51 = .ok (.iaload, 1) := by decide +kernel
theorem dX10_rule_52 : decode cX10_rule 52 = .ok (.ireturn, 1) := by decide +kernel
theorem dX10_rule_53 : decode cX10_rule 53 = .ok (.aload_n 0, 1) := by decide +kernel
theorem dX10_rule_54 : decode cX10_rule 54 = .ok (.getfield 87, 3) := by decide +kernel
theorem dX10_rule_57 : decode cX10_rule 57 = .ok (.ireturn, 1) := by decide +kernel
theorem dX10_rule_58 : decode cX10_rule 58 = .ok (.aload_n 0, 1) := by decide +kernel
theorem dX10_rule_59 : decode cX10_rule 59 = .ok (.getfield 7, 3) := by decide +kernel
theorem dX10_rule_62 : decode cX10_rule 62 = .ok (.bipush 43, 2) := by decide +kernel
theorem dX10_rule_64 : decode cX10_rule 64 = .ok (.iaload, 1) := by decide +kernel
theorem dX10_rule_65 : decode cX10_rule 65 = .ok (.ireturn, 1) := by decide +kernel
theorem dX10_rule_66 : decode cX10_rule 66 = .ok (.aload_n 0, 1) := by decide +kernel
theorem dX10_rule_67 : decode cX10_rule 67 = .ok (.getfield 7, 3) := by decide +kernel
theorem dX10_rule_70 : decode cX10_rule 70 = .ok (.bipush 44, 2) := by decide +kernel
theorem dX10_rule_72 : decode cX10_rule 72 = .ok (.iaload, 1) := by decide +kernel
theorem dX10_rule_73 : decode cX10_rule 73 = .ok (.ireturn, 1) := by decide +kernel
theorem dX10_rule_74 : decode cX10_rule 74 = .ok (.aload_n 0, 1) := by decide +kernel
theorem dX10_rule_75 : decode cX10_rule 75 = .ok (.getfield 7, 3) := by decide +kernel
theorem dX10_rule_78 : decode cX10_rule 78 = .ok (.bipush 45, 2) := by decide +kernel
theorem dX10_rule_80 : decode cX10_rule 80 = .ok (.iaload, 1) := by decide +kernel
theorem dX10_rule_81 : decode cX10_rule 81 = .ok (.ireturn, 1) := by decide +kernel
theorem dX10_rule_82 : decode cX10_rule 82 = .ok (.iconst (-1), 1) := by decide +kernel
theorem dX10_rule_83 : decode cX10_rule 83 = .ok (.ireturn, 1) := by decide +kernel
theorem dX10_hole_0 : decode cX10_hole 0 = .ok (.aload_n 0, 1) := by decide +kernel
theorem dX10_hole_1 : decode cX10_hole 1 = .ok (.iload_n 1, 1) := by decide +kernel
theorem dX10_hole_2 : decode cX10_hole 2 = .ok (.invokevirtual 216, 3) := by decide +kernel
theorem dX10_hole_5 : decode cX10_hole 5 = .ok (.ifCond .eq 14, 3) := by decide +kernel
theorem dX10_hole_8 : decode cX10_hole 8 = .ok (.aload_n 0, 1) := by decide +kernel
theorem dX10_hole_9 : decode cX10_hole 9 = .ok (.getfield 7, 3) := by decide +kernel
theorem dX10_hole_12 : decode cX10_hole 12 = .ok (.iconst 0, 1) := by decide +kernel
theorem dX10_hole_13 : decode cX10_hole 13 = .ok (.iload_n 1, 1) := by decide +kernel
theorem dX10_hole_14 : decode cX10_hole 14 = .ok (.iadd, 1) := by decide +kernel
theorem dX10_hole_15 : decode cX10_hole 15 = .ok (.iaload, 1) := by decide +kernel
theorem dX10_hole_16 : decode cX10_hole 16 = .ok (.goto 4, 3) := by decide +kernel
theorem dX10_hole_19 : decode cX10_hole 19 = .ok (.iconst (-1), 1) := by decide +kernel
theorem dX10_hole_20 : decode cX10_hole 20 = .ok (.ireturn, 1) := by decide +kernel
theorem dX10_coin_0 : decode cX10_coin 0 = .ok (.aload_n 0, 1) := by decide +kernel
theorem dX10_coin_1 : decode cX10_coin 1 = .ok (.iload_n 1, 1) := by decide +kernel
theorem dX10_coin_2 : decode cX10_coin 2 = .ok (.invokevirtual 219, 3) := by decide +kernel
theorem dX10_coin_5 : decode cX10_coin 5 = .ok (.ifCond .ne 5, 3) := by decide +kernel
theorem dX10_coin_8 : decode cX10_coin 8 = .ok (.iconst (-1), 1) := by decide +kernel
theorem dX10_coin_9 : decode cX10_coin 9 = .ok (.ireturn, 1) := by decide +kernel
theorem dX10_coin_10 : decode cX10_coin 10 = .ok (.iload_n 2, 1) := by decide +kernel
theorem dX10_coin_11 : decode cX10_coin 11 = .ok (.tableswitch 72 0 3 #[29, 39, 49, 59], 29) := by decide +kernel
theorem dX10_coin_40 : decode cX10_coin 40 = .ok (.aload_n 0, 1) := by decide +kernel
theorem dX10_coin_41 : decode cX10_coin 41 = .ok (.getfield 7, 3) := by decide +kernel
theorem dX10_coin_44 : decode cX10_coin 44 = .ok (.bipush 9, 2) := by decide +kernel
theorem dX10_coin_46 : decode cX10_coin 46 = .ok (.iload_n 1, 1) := by decide +kernel
theorem dX10_coin_47 : decode cX10_coin 47 = .ok (.iadd, 1) := by decide +kernel
theorem dX10_coin_48 : decode cX10_coin 48 = .ok (.iaload, 1) := by decide +kernel
theorem dX10_coin_49 : decode cX10_coin 49 = .ok (.ireturn, 1) := by decide +kernel
theorem dX10_coin_50 : decode cX10_coin 50 = .ok (.aload_n 0, 1) := by decide +kernel
theorem dX10_coin_51 : decode cX10_coin 51 = .ok (.getfield 7, 3) := by decide +kernel
theorem dX10_coin_54 : decode cX10_coin 54 = .ok (.bipush 15, 2) := by decide +kernel
theorem dX10_coin_56 : decode cX10_coin 56 = .ok (.iload_n 1, 1) := by decide +kernel
theorem dX10_coin_57 : decode cX10_coin 57 = .ok (.iadd, 1) := by decide +kernel
theorem dX10_coin_58 : decode cX10_coin 58 = .ok (.iaload, 1) := by decide +kernel
theorem dX10_coin_59 : decode cX10_coin 59 = .ok (.ireturn, 1) := by decide +kernel
theorem dX10_coin_60 : decode cX10_coin 60 = .ok (.aload_n 0, 1) := by decide +kernel
theorem dX10_coin_61 : decode cX10_coin 61 = .ok (.getfield 7, 3) := by decide +kernel
theorem dX10_coin_64 : decode cX10_coin 64 = .ok (.bipush 21, 2) := by decide +kernel
theorem dX10_coin_66 : decode cX10_coin 66 = .ok (.iload_n 1, 1) := by decide +kernel
theorem dX10_coin_67 : decode cX10_coin 67 = .ok (.iadd, 1) := by decide +kernel
theorem dX10_coin_68 : decode cX10_coin 68 = .ok (.iaload, 1) := by decide +kernel
theorem dX10_coin_69 : decode cX10_coin 69 = .ok (.ireturn, 1) := by decide +kernel
theorem dX10_coin_70 : decode cX10_coin 70 = .ok (.aload_n 0, 1) := by decide +kernel
theorem dX10_coin_71 : decode cX10_coin 71 = .ok (.invokevirtual 222, 3) := by decide +kernel
theorem dX10_coin_74 : decode cX10_coin 74 = .ok (.aload_n 0, 1) := by decide +kernel
theorem dX10_coin_75 : decode cX10_coin 75 = .ok (.iload_n 1, 1) := by decide +kernel
theorem dX10_coin_76 : decode cX10_coin 76 = .ok (.invokevirtual 206, 3) := by decide +kernel
theorem dX10_coin_79 : decode cX10_coin 79 = .ok (.invokestatic 158, 3) := by decide +kernel
theorem dX10_coin_82 : decode cX10_coin 82 = .ok (.ireturn, 1) := by decide +kernel
theorem dX10_coin_83 : decode cX10_coin 83 = .ok (.iconst (-1), 1) := by decide +kernel
theorem dX10_coin_84 : decode cX10_coin 84 = .ok (.ireturn, 1) := by decide +kernel
theorem dX10_crab_0 : decode cX10_crab 0 = .ok (.aload_n 0, 1) := by decide +kernel
theorem dX10_crab_1 : decode cX10_crab 1 = .ok (.iload_n 1, 1) := by decide +kernel
theorem dX10_crab_2 : decode cX10_crab 2 = .ok (.invokevirtual 225, 3) := by decide +kernel
theorem dX10_crab_5 : decode cX10_crab 5 = .ok (.ifCond .ne 5, 3) := by decide +kernel
theorem dX10_crab_8 : decode cX10_crab 8 = .ok (.iconst (-1), 1) := by decide +kernel
theorem dX10_crab_9 : decode cX10_crab 9 = .ok (.ireturn, 1) := by decide +kernel
theorem dX10_crab_10 : decode cX10_crab 10 = .ok (.iload_n 2, 1) := by decide +kernel
theorem dX10_crab_11 : decode cX10_crab 11 = .ok (.tableswitch 83 0 4 #[33, 43, 53, 63, 73], 33) := by decide +kernel
theorem dX10_crab_44 : decode cX10_crab 44 = .ok (.aload_n 0, 1) := by decide +kernel
theorem dX10_crab_45 : decode cX10_crab 45 = .ok (.getfield 7, 3) := by decide +kernel
theorem dX10_crab_48 : decode cX10_crab 48 = .ok (.bipush 27, 2) := by decide +kernel
theorem dX10_crab_50 : decode cX10_crab 50 = .ok (.iload_n 1, 1) := by decide +kernel
theorem dX10_crab_51 : decode cX10_crab 51 = .ok (.iadd, 1) := by decide +kernel
theorem dX10_crab_52 : decode cX10_crab 52 = .ok (.iaload, 1) := by decide +kernel
theorem dX10_crab_53 : decode cX10_crab 53 = .ok (.ireturn, 1) := by decide +kernel
theorem dX10_crab_54 : decode cX10_crab 54 = .ok (.aload_n 0, 1) := by decide +kernel
theorem dX10_crab_55 : decode cX10_crab 55 = .ok (.getfield 7, 3) := by decide +kernel
theorem dX10_crab_58 : decode cX10_crab 58 = .ok (.bipush 31, 2) := by decide +kernel
theorem dX10_crab_60 : decode cX10_crab 60 = .ok (.iload_n 1, 1) := by decide +kernel
theorem dX10_crab_61 : decode cX10_crab 61 = .ok (.iadd, 1) := by decide +kernel
theorem dX10_crab_62 : decode cX10_crab 62 = .ok (.iaload, 1) := by decide +kernel
theorem dX10_crab_63 : decode cX10_crab 63 = .ok (.ireturn, 1) := by decide +kernel
theorem dX10_crab_64 : decode cX10_crab 64 = .ok (.aload_n 0, 1) := by decide +kernel
theorem dX10_crab_65 : decode cX10_crab 65 = .ok (.getfield 7, 3) := by decide +kernel
theorem dX10_crab_68 : decode cX10_crab 68 = .ok (.bipush 35, 2) := by decide +kernel
theorem dX10_crab_70 : decode cX10_crab 70 = .ok (.iload_n 1, 1) := by decide +kernel
theorem dX10_crab_71 : decode cX10_crab 71 = .ok (.iadd, 1) := by decide +kernel
theorem dX10_crab_72 : decode cX10_crab 72 = .ok (.iaload, 1) := by decide +kernel
theorem dX10_crab_73 : decode cX10_crab 73 = .ok (.ireturn, 1) := by decide +kernel
theorem dX10_crab_74 : decode cX10_crab 74 = .ok (.aload_n 0, 1) := by decide +kernel
theorem dX10_crab_75 : decode cX10_crab 75 = .ok (.getfield 7, 3) := by decide +kernel
theorem dX10_crab_78 : decode cX10_crab 78 = .ok (.bipush 39, 2) := by decide +kernel
theorem dX10_crab_80 : decode cX10_crab 80 = .ok (.iload_n 1, 1) := by decide +kernel
theorem dX10_crab_81 : decode cX10_crab 81 = .ok (.iadd, 1) := by decide +kernel
theorem dX10_crab_82 : decode cX10_crab 82 = .ok (.iaload, 1) := by decide +kernel
theorem dX10_crab_83 : decode cX10_crab 83 = .ok (.ireturn, 1) := by decide +kernel
theorem dX10_crab_84 : decode cX10_crab 84 = .ok (.aload_n 0, 1) := by decide +kernel
theorem dX10_crab_85 : decode cX10_crab 85 = .ok (.invokevirtual 222, 3) := by decide +kernel
theorem dX10_crab_88 : decode cX10_crab 88 = .ok (.aload_n 0, 1) := by decide +kernel
theorem dX10_crab_89 : decode cX10_crab 89 = .ok (.iload_n 1, 1) := by decide +kernel
theorem dX10_crab_90 : decode cX10_crab 90 = .ok (.invokevirtual 191, 3) := by decide +kernel
theorem dX10_crab_93 : decode cX10_crab 93 = .ok (.ireturn, 1) := by decide +kernel
theorem dX10_crab_94 : decode cX10_crab 94 = .ok (.iconst (-1), 1) := by decide +kernel
theorem dX10_crab_95 : decode cX10_crab 95 = .ok (.ireturn, 1) := by decide +kernel
theorem dX10_becomes_0 : decode cX10_becomes 0 = .ok (.aload_n 0, 1) := by decide +kernel
theorem dX10_becomes_1 : decode cX10_becomes 1 = .ok (.getfield 7, 3) := by decide +kernel
theorem dX10_becomes_4 : decode cX10_becomes 4 = .ok (.iload_n 1, 1) := by decide +kernel
theorem dX10_becomes_5 : decode cX10_becomes 5 = .ok (.iaload, 1) := by decide +kernel
theorem dX10_becomes_6 : decode cX10_becomes 6 = .ok (.istore_n 3, 1) := by decide +kernel
theorem dX10_becomes_7 : decode cX10_becomes 7 = .ok (.aload_n 0, 1) := by decide +kernel
theorem dX10_becomes_8 : decode cX10_becomes 8 = .ok (.getfield 7, 3) := by decide +kernel
theorem dX10_becomes_11 : decode cX10_becomes 11 = .ok (.iload_n 1, 1) := by decide +kernel
theorem dX10_becomes_12 : decode cX10_becomes 12 = .ok (.iload_n 2, 1) := by decide +kernel
theorem dX10_becomes_13 : decode cX10_becomes 13 = .ok (.iastore, 1) := by decide +kernel
theorem dX10_becomes_14 : decode cX10_becomes 14 = .ok (.iload_n 3, 1) := by decide +kernel
theorem dX10_becomes_15 : decode cX10_becomes 15 = .ok (.ireturn, 1) := by decide +kernel
theorem dX10_manyAt_0 : decode cX10_manyAt 0 = .ok (.iconst 0, 1) := by decide +kernel
theorem dX10_manyAt_1 : decode cX10_manyAt 1 = .ok (.istore_n 2, 1) := by decide +kernel
theorem dX10_manyAt_2 : decode cX10_manyAt 2 = .ok (.iconst 0, 1) := by decide +kernel
theorem dX10_manyAt_3 : decode cX10_manyAt 3 = .ok (.istore_n 3, 1) := by decide +kernel
theorem dX10_manyAt_4 : decode cX10_manyAt 4 = .ok (.iload_n 3, 1) := by decide +kernel
theorem dX10_manyAt_5 : decode cX10_manyAt 5 = .ok (.aload_n 0, 1) := by decide +kernel
theorem dX10_manyAt_6 : decode cX10_manyAt 6 = .ok (.getfield 7, 3) := by decide +kernel
theorem dX10_manyAt_9 : decode cX10_manyAt 9 = .ok (.bipush 8, 2) := by decide +kernel
theorem dX10_manyAt_11 : decode cX10_manyAt 11 = .ok (.iaload, 1) := by decide +kernel
theorem dX10_manyAt_12 : decode cX10_manyAt 12 = .ok (.if_icmp .ge 33, 3) := by decide +kernel
theorem dX10_manyAt_15 : decode cX10_manyAt 15 = .ok (.iload_n 2, 1) := by decide +kernel
theorem dX10_manyAt_16 : decode cX10_manyAt 16 = .ok (.aload_n 0, 1) := by decide +kernel
theorem dX10_manyAt_17 : decode cX10_manyAt 17 = .ok (.getfield 7, 3) := by decide +kernel
theorem dX10_manyAt_20 : decode cX10_manyAt 20 = .ok (.bipush 21, 2) := by decide +kernel
theorem dX10_manyAt_22 : decode cX10_manyAt 22 = .ok (.iload_n 3, 1) := by decide +kernel
theorem dX10_manyAt_23 : decode cX10_manyAt 23 = .ok (.iadd, 1) := by decide +kernel
theorem dX10_manyAt_24 : decode cX10_manyAt 24 = .ok (.iaload, 1) := by decide +kernel
theorem dX10_manyAt_25 : decode cX10_manyAt 25 = .ok (.iload_n 1, 1) := by decide +kernel
theorem dX10_manyAt_26 : decode cX10_manyAt 26 = .ok (.if_icmp .ne 7, 3) := by decide +kernel
theorem dX10_manyAt_29 : decode cX10_manyAt 29 = .ok (.iconst 1, 1) := by decide +kernel
theorem dX10_manyAt_30 : decode cX10_manyAt 30 = .ok (.goto 4, 3) := by decide +kernel
theorem dX10_manyAt_33 : decode cX10_manyAt 33 = .ok (.iconst 0, 1) := by decide +kernel
theorem dX10_manyAt_34 : decode cX10_manyAt 34 = .ok (.invokestatic 158, 3) := by decide +kernel
theorem dX10_manyAt_37 : decode cX10_manyAt 37 = .ok (.iadd, 1) := by decide +kernel
theorem dX10_manyAt_38 : decode cX10_manyAt 38 = .ok (.istore_n 2, 1) := by decide +kernel
theorem dX10_manyAt_39 : decode cX10_manyAt 39 = .ok (.iinc 3 1, 3) := by decide +kernel
theorem dX10_manyAt_42 : decode cX10_manyAt 42 = .ok (.goto (-38), 3) := by decide +kernel
theorem dX10_manyAt_45 : decode cX10_manyAt 45 = .ok (.iload_n 2, 1) := by decide +kernel
theorem dX10_manyAt_46 : decode cX10_manyAt 46 = .ok (.ireturn, 1) := by decide +kernel
theorem dX10_dig_0 : decode cX10_dig 0 = .ok (.aload_n 0, 1) := by decide +kernel
theorem dX10_dig_1 : decode cX10_dig 1 = .ok (.iload_n 1, 1) := by decide +kernel
theorem dX10_dig_2 : decode cX10_dig 2 = .ok (.invokevirtual 216, 3) := by decide +kernel
theorem dX10_dig_5 : decode cX10_dig 5 = .ok (.ifCond .eq 15, 3) := by decide +kernel
theorem dX10_dig_8 : decode cX10_dig 8 = .ok (.iload_n 2, 1) := by decide +kernel
theorem dX10_dig_9 : decode cX10_dig 9 = .ok (.i2l, 1) := by decide +kernel
theorem dX10_dig_10 : decode cX10_dig 10 = .ok (.lconst 0, 1) := by decide +kernel
theorem dX10_dig_11 : decode cX10_dig 11 = .ok (.ldc2_w 228, 3) := by decide +kernel
theorem dX10_dig_14 : decode cX10_dig 14 = .ok (.invokestatic 95, 3) := by decide +kernel
theorem dX10_dig_17 : decode cX10_dig 17 = .ok (.ifCond .ne 5, 3) := by decide +kernel
theorem dX10_dig_20 : decode cX10_dig 20 = .ok (.iconst (-1), 1) := by decide +kernel
theorem dX10_dig_21 : decode cX10_dig 21 = .ok (.ireturn, 1) := by decide +kernel
theorem dX10_dig_22 : decode cX10_dig 22 = .ok (.iload_n 2, 1) := by decide +kernel
theorem dX10_dig_23 : decode cX10_dig 23 = .ok (.ifCond .ne 19, 3) := by decide +kernel
theorem dX10_dig_26 : decode cX10_dig 26 = .ok (.aload_n 0, 1) := by decide +kernel
theorem dX10_dig_27 : decode cX10_dig 27 = .ok (.bipush 20, 2) := by decide +kernel
theorem dX10_dig_29 : decode cX10_dig 29 = .ok (.iload_n 1, 1) := by decide +kernel
theorem dX10_dig_30 : decode cX10_dig 30 = .ok (.iadd, 1) := by decide +kernel
theorem dX10_dig_31 : decode cX10_dig 31 = .ok (.invokevirtual 230, 3) := by decide +kernel
theorem dX10_dig_34 : decode cX10_dig 34 = .ok (.ifCond .le 8, 3) := by decide +kernel
theorem dX10_dig_37 : decode cX10_dig 37 = .ok (.bipush (-2), 2) := by decide +kernel
theorem dX10_dig_39 : decode cX10_dig 39 = .ok (.goto 11, 3) := by decide +kernel
theorem dX10_dig_42 : decode cX10_dig 42 = .ok (.aload_n 0, 1) := by decide +kernel
theorem dX10_dig_43 : decode cX10_dig 43 = .ok (.iconst 0, 1) := by decide +kernel
theorem dX10_dig_44 : decode cX10_dig 44 = .ok (.iload_n 1, 1) := by decide +kernel
theorem dX10_dig_45 : decode cX10_dig 45 = .ok (.iadd, 1) := by decide +kernel
theorem dX10_dig_46 : decode cX10_dig 46 = .ok (.iload_n 2, 1) := by decide +kernel
theorem dX10_dig_47 : decode cX10_dig 47 = .ok (.invokevirtual 233, 3) := by decide +kernel
theorem dX10_dig_50 : decode cX10_dig 50 = .ok (.ireturn, 1) := by decide +kernel
theorem dX10_mint_0 : decode cX10_mint 0 = .ok (.iload_n 1, 1) := by decide +kernel
theorem dX10_mint_1 : decode cX10_mint 1 = .ok (.i2l, 1) := by decide +kernel
theorem dX10_mint_2 : decode cX10_mint 2 = .ok (.lconst 1, 1) := by decide +kernel
theorem dX10_mint_3 : decode cX10_mint 3 = .ok (.ldc2_w 228, 3) := by decide +kernel
theorem dX10_mint_6 : decode cX10_mint 6 = .ok (.invokestatic 95, 3) := by decide +kernel
theorem dX10_mint_9 : decode cX10_mint 9 = .ok (.ifCond .eq 11, 3) := by decide +kernel
theorem dX10_mint_12 : decode cX10_mint 12 = .ok (.aload_n 0, 1) := by decide +kernel
theorem dX10_mint_13 : decode cX10_mint 13 = .ok (.iload_n 2, 1) := by decide +kernel
theorem dX10_mint_14 : decode cX10_mint 14 = .ok (.invokevirtual 216, 3) := by decide +kernel
theorem dX10_mint_17 : decode cX10_mint 17 = .ok (.ifCond .ne 5, 3) := by decide +kernel
theorem dX10_mint_20 : decode cX10_mint 20 = .ok (.iconst (-1), 1) := by decide +kernel
theorem dX10_mint_21 : decode cX10_mint 21 = .ok (.ireturn, 1) := by decide +kernel
theorem dX10_mint_22 : decode cX10_mint 22 = .ok (.aload_n 0, 1) := by decide +kernel
theorem dX10_mint_23 : decode cX10_mint 23 = .ok (.getfield 7, 3) := by decide +kernel
theorem dX10_mint_26 : decode cX10_mint 26 = .ok (.bipush 8, 2) := by decide +kernel
theorem dX10_mint_28 : decode cX10_mint 28 = .ok (.iaload, 1) := by decide +kernel
theorem dX10_mint_29 : decode cX10_mint 29 = .ok (.bipush 6, 2) := by decide +kernel
theorem dX10_mint_31 : decode cX10_mint 31 = .ok (.if_icmp .ne 6, 3) := by decide +kernel
theorem dX10_mint_34 : decode cX10_mint 34 = .ok (.bipush (-3), 2) := by decide +kernel
theorem dX10_mint_36 : decode cX10_mint 36 = .ok (.ireturn, 1) := by decide +kernel
theorem dX10_mint_37 : decode cX10_mint 37 = .ok (.aload_n 0, 1) := by decide +kernel
theorem dX10_mint_38 : decode cX10_mint 38 = .ok (.getfield 7, 3) := by decide +kernel
theorem dX10_mint_41 : decode cX10_mint 41 = .ok (.bipush 8, 2) := by decide +kernel
theorem dX10_mint_43 : decode cX10_mint 43 = .ok (.iaload, 1) := by decide +kernel
theorem dX10_mint_44 : decode cX10_mint 44 = .ok (.istore_n 3, 1) := by decide +kernel
theorem dX10_mint_45 : decode cX10_mint 45 = .ok (.aload_n 0, 1) := by decide +kernel
theorem dX10_mint_46 : decode cX10_mint 46 = .ok (.getfield 7, 3) := by decide +kernel
theorem dX10_mint_49 : decode cX10_mint 49 = .ok (.bipush 9, 2) := by decide +kernel
theorem dX10_mint_51 : decode cX10_mint 51 = .ok (.iload_n 3, 1) := by decide +kernel
theorem dX10_mint_52 : decode cX10_mint 52 = .ok (.iadd, 1) := by decide +kernel
theorem dX10_mint_53 : decode cX10_mint 53 = .ok (.iload_n 1, 1) := by decide +kernel
theorem dX10_mint_54 : decode cX10_mint 54 = .ok (.iastore, 1) := by decide +kernel
theorem dX10_mint_55 : decode cX10_mint 55 = .ok (.aload_n 0, 1) := by decide +kernel
theorem dX10_mint_56 : decode cX10_mint 56 = .ok (.getfield 7, 3) := by decide +kernel
theorem dX10_mint_59 : decode cX10_mint 59 = .ok (.bipush 15, 2) := by decide +kernel
theorem dX10_mint_61 : decode cX10_mint 61 = .ok (.iload_n 3, 1) := by decide +kernel
theorem dX10_mint_62 : decode cX10_mint 62 = .ok (.iadd, 1) := by decide +kernel
theorem dX10_mint_63 : decode cX10_mint 63 = .ok (.iconst 0, 1) := by decide +kernel
theorem dX10_mint_64 : decode cX10_mint 64 = .ok (.iastore, 1) := by decide +kernel
theorem dX10_mint_65 : decode cX10_mint 65 = .ok (.aload_n 0, 1) := by decide +kernel
theorem dX10_mint_66 : decode cX10_mint 66 = .ok (.getfield 7, 3) := by decide +kernel
theorem dX10_mint_69 : decode cX10_mint 69 = .ok (.bipush 21, 2) := by decide +kernel
theorem dX10_mint_71 : decode cX10_mint 71 = .ok (.iload_n 3, 1) := by decide +kernel
theorem dX10_mint_72 : decode cX10_mint 72 = .ok (.iadd, 1) := by decide +kernel
theorem dX10_mint_73 : decode cX10_mint 73 = .ok (.iload_n 2, 1) := by decide +kernel
theorem dX10_mint_74 : decode cX10_mint 74 = .ok (.iastore, 1) := by decide +kernel
theorem dX10_mint_75 : decode cX10_mint 75 = .ok (.aload_n 0, 1) := by decide +kernel
theorem dX10_mint_76 : decode cX10_mint 76 = .ok (.getfield 7, 3) := by decide +kernel
theorem dX10_mint_79 : decode cX10_mint 79 = .ok (.bipush 8, 2) := by decide +kernel
theorem dX10_mint_81 : decode cX10_mint 81 = .ok (.dup2, 1) := by decide +kernel
theorem dX10_mint_82 : decode cX10_mint 82 = .ok (.iaload, 1) := by decide +kernel
theorem dX10_mint_83 : decode cX10_mint 83 = .ok (.iconst 1, 1) := by decide +kernel
theorem dX10_mint_84 : decode cX10_mint 84 = .ok (.iadd, 1) := by decide +kernel
theorem dX10_mint_85 : decode cX10_mint 85 = .ok (.iastore, 1) := by decide +kernel
theorem dX10_mint_86 : decode cX10_mint 86 = .ok (.aload_n 0, 1) := by decide +kernel
theorem dX10_mint_87 : decode cX10_mint 87 = .ok (.getfield 7, 3) := by decide +kernel
theorem dX10_mint_90 : decode cX10_mint 90 = .ok (.bipush 8, 2) := by decide +kernel
theorem dX10_mint_92 : decode cX10_mint 92 = .ok (.iaload, 1) := by decide +kernel
theorem dX10_mint_93 : decode cX10_mint 93 = .ok (.ireturn, 1) := by decide +kernel
theorem dX10_lie_0 : decode cX10_lie 0 = .ok (.aload_n 0, 1) := by decide +kernel
theorem dX10_lie_1 : decode cX10_lie 1 = .ok (.iload_n 1, 1) := by decide +kernel
theorem dX10_lie_2 : decode cX10_lie 2 = .ok (.invokevirtual 219, 3) := by decide +kernel
theorem dX10_lie_5 : decode cX10_lie 5 = .ok (.ifCond .eq 23, 3) := by decide +kernel
theorem dX10_lie_8 : decode cX10_lie 8 = .ok (.aload_n 0, 1) := by decide +kernel
theorem dX10_lie_9 : decode cX10_lie 9 = .ok (.iload_n 2, 1) := by decide +kernel
theorem dX10_lie_10 : decode cX10_lie 10 = .ok (.invokevirtual 216, 3) := by decide +kernel
theorem dX10_lie_13 : decode cX10_lie 13 = .ok (.ifCond .eq 15, 3) := by decide +kernel
theorem dX10_lie_16 : decode cX10_lie 16 = .ok (.aload_n 0, 1) := by decide +kernel
theorem dX10_lie_17 : decode cX10_lie 17 = .ok (.bipush 21, 2) := by decide +kernel
theorem dX10_lie_19 : decode cX10_lie 19 = .ok (.iload_n 1, 1) := by decide +kernel
theorem dX10_lie_20 : decode cX10_lie 20 = .ok (.iadd, 1) := by decide +kernel
theorem dX10_lie_21 : decode cX10_lie 21 = .ok (.iload_n 2, 1) := by decide +kernel
theorem dX10_lie_22 : decode cX10_lie 22 = .ok (.invokevirtual 233, 3) := by decide +kernel
theorem dX10_lie_25 : decode cX10_lie 25 = .ok (.goto 4, 3) := by decide +kernel
theorem dX10_lie_28 : decode cX10_lie 28 = .ok (.iconst (-1), 1) := by decide +kernel
theorem dX10_lie_29 : decode cX10_lie 29 = .ok (.ireturn, 1) := by decide +kernel
theorem dX10_fake_0 : decode cX10_fake 0 = .ok (.aload_n 0, 1) := by decide +kernel
theorem dX10_fake_1 : decode cX10_fake 1 = .ok (.iload_n 1, 1) := by decide +kernel
theorem dX10_fake_2 : decode cX10_fake 2 = .ok (.invokevirtual 219, 3) := by decide +kernel
theorem dX10_fake_5 : decode cX10_fake 5 = .ok (.ifCond .eq 18, 3) := by decide +kernel
theorem dX10_fake_8 : decode cX10_fake 8 = .ok (.aload_n 0, 1) := by decide +kernel
theorem dX10_fake_9 : decode cX10_fake 9 = .ok (.bipush 15, 2) := by decide +kernel
theorem dX10_fake_11 : decode cX10_fake 11 = .ok (.iload_n 1, 1) := by decide +kernel
theorem dX10_fake_12 : decode cX10_fake 12 = .ok (.iadd, 1) := by decide +kernel
theorem dX10_fake_13 : decode cX10_fake 13 = .ok (.iload_n 2, 1) := by decide +kernel
theorem dX10_fake_14 : decode cX10_fake 14 = .ok (.invokestatic 158, 3) := by decide +kernel
theorem dX10_fake_17 : decode cX10_fake 17 = .ok (.invokevirtual 233, 3) := by decide +kernel
theorem dX10_fake_20 : decode cX10_fake 20 = .ok (.goto 4, 3) := by decide +kernel
theorem dX10_fake_23 : decode cX10_fake 23 = .ok (.iconst (-1), 1) := by decide +kernel
theorem dX10_fake_24 : decode cX10_fake 24 = .ok (.ireturn, 1) := by decide +kernel
theorem dX10_set_0 : decode cX10_set 0 = .ok (.aload_n 0, 1) := by decide +kernel
theorem dX10_set_1 : decode cX10_set 1 = .ok (.iload_n 1, 1) := by decide +kernel
theorem dX10_set_2 : decode cX10_set 2 = .ok (.invokevirtual 225, 3) := by decide +kernel
theorem dX10_set_5 : decode cX10_set 5 = .ok (.ifCond .eq 23, 3) := by decide +kernel
theorem dX10_set_8 : decode cX10_set 8 = .ok (.aload_n 0, 1) := by decide +kernel
theorem dX10_set_9 : decode cX10_set 9 = .ok (.iload_n 2, 1) := by decide +kernel
theorem dX10_set_10 : decode cX10_set 10 = .ok (.invokevirtual 216, 3) := by decide +kernel
theorem dX10_set_13 : decode cX10_set 13 = .ok (.ifCond .eq 15, 3) := by decide +kernel
theorem dX10_set_16 : decode cX10_set 16 = .ok (.aload_n 0, 1) := by decide +kernel
theorem dX10_set_17 : decode cX10_set 17 = .ok (.bipush 39, 2) := by decide +kernel
theorem dX10_set_19 : decode cX10_set 19 = .ok (.iload_n 1, 1) := by decide +kernel
theorem dX10_set_20 : decode cX10_set 20 = .ok (.iadd, 1) := by decide +kernel
theorem dX10_set_21 : decode cX10_set 21 = .ok (.iload_n 2, 1) := by decide +kernel
theorem dX10_set_22 : decode cX10_set 22 = .ok (.invokevirtual 233, 3) := by decide +kernel
theorem dX10_set_25 : decode cX10_set 25 = .ok (.goto 4, 3) := by decide +kernel
theorem dX10_set_28 : decode cX10_set 28 = .ok (.iconst (-1), 1) := by decide +kernel
theorem dX10_set_29 : decode cX10_set 29 = .ok (.ireturn, 1) := by decide +kernel
theorem dX10_hand_0 : decode cX10_hand 0 = .ok (.aload_n 0, 1) := by decide +kernel
theorem dX10_hand_1 : decode cX10_hand 1 = .ok (.iload_n 1, 1) := by decide +kernel
theorem dX10_hand_2 : decode cX10_hand 2 = .ok (.invokevirtual 225, 3) := by decide +kernel
theorem dX10_hand_5 : decode cX10_hand 5 = .ok (.ifCond .eq 25, 3) := by decide +kernel
theorem dX10_hand_8 : decode cX10_hand 8 = .ok (.iload_n 2, 1) := by decide +kernel
theorem dX10_hand_9 : decode cX10_hand 9 = .ok (.i2l, 1) := by decide +kernel
theorem dX10_hand_10 : decode cX10_hand 10 = .ok (.lconst 0, 1) := by decide +kernel
theorem dX10_hand_11 : decode cX10_hand 11 = .ok (.lconst 1, 1) := by decide +kernel
theorem dX10_hand_12 : decode cX10_hand 12 = .ok (.invokestatic 95, 3) := by decide +kernel
theorem dX10_hand_15 : decode cX10_hand 15 = .ok (.ifCond .eq 15, 3) := by decide +kernel
theorem dX10_hand_18 : decode cX10_hand 18 = .ok (.aload_n 0, 1) := by decide +kernel
theorem dX10_hand_19 : decode cX10_hand 19 = .ok (.bipush 35, 2) := by decide +kernel
theorem dX10_hand_21 : decode cX10_hand 21 = .ok (.iload_n 1, 1) := by decide +kernel
theorem dX10_hand_22 : decode cX10_hand 22 = .ok (.iadd, 1) := by decide +kernel
theorem dX10_hand_23 : decode cX10_hand 23 = .ok (.iload_n 2, 1) := by decide +kernel
theorem dX10_hand_24 : decode cX10_hand 24 = .ok (.invokevirtual 233, 3) := by decide +kernel
theorem dX10_hand_27 : decode cX10_hand 27 = .ok (.goto 4, 3) := by decide +kernel
theorem dX10_hand_30 : decode cX10_hand 30 = .ok (.iconst (-1), 1) := by decide +kernel
theorem dX10_hand_31 : decode cX10_hand 31 = .ok (.ireturn, 1) := by decide +kernel
theorem dX10_tide_0 : decode cX10_tide 0 = .ok (.iload_n 1, 1) := by decide +kernel
theorem dX10_tide_1 : decode cX10_tide 1 = .ok (.i2l, 1) := by decide +kernel
theorem dX10_tide_2 : decode cX10_tide 2 = .ok (.lconst 0, 1) := by decide +kernel
theorem dX10_tide_3 : decode cX10_tide 3 = .ok (.ldc2_w 228, 3) := by decide +kernel
theorem dX10_tide_6 : decode cX10_tide 6 = .ok (.invokestatic 95, 3) := by decide +kernel
theorem dX10_tide_9 : decode cX10_tide 9 = .ok (.ifCond .eq 15, 3) := by decide +kernel
theorem dX10_tide_12 : decode cX10_tide 12 = .ok (.iload_n 2, 1) := by decide +kernel
theorem dX10_tide_13 : decode cX10_tide 13 = .ok (.i2l, 1) := by decide +kernel
theorem dX10_tide_14 : decode cX10_tide 14 = .ok (.lconst 0, 1) := by decide +kernel
theorem dX10_tide_15 : decode cX10_tide 15 = .ok (.ldc2_w 236, 3) := by decide +kernel
theorem dX10_tide_18 : decode cX10_tide 18 = .ok (.invokestatic 95, 3) := by decide +kernel
theorem dX10_tide_21 : decode cX10_tide 21 = .ok (.ifCond .ne 5, 3) := by decide +kernel
theorem dX10_tide_24 : decode cX10_tide 24 = .ok (.iconst (-1), 1) := by decide +kernel
theorem dX10_tide_25 : decode cX10_tide 25 = .ok (.ireturn, 1) := by decide +kernel
theorem dX10_tide_26 : decode cX10_tide 26 = .ok (.aload_n 0, 1) := by decide +kernel
theorem dX10_tide_27 : decode cX10_tide 27 = .ok (.getfield 7, 3) := by decide +kernel
theorem dX10_tide_30 : decode cX10_tide 30 = .ok (.bipush 44, 2) := by decide +kernel
theorem dX10_tide_32 : decode cX10_tide 32 = .ok (.iload_n 2, 1) := by decide +kernel
theorem dX10_tide_33 : decode cX10_tide 33 = .ok (.iastore, 1) := by decide +kernel
theorem dX10_tide_34 : decode cX10_tide 34 = .ok (.aload_n 0, 1) := by decide +kernel
theorem dX10_tide_35 : decode cX10_tide 35 = .ok (.bipush 43, 2) := by decide +kernel
theorem dX10_tide_37 : decode cX10_tide 37 = .ok (.iload_n 1, 1) := by decide +kernel
theorem dX10_tide_38 : decode cX10_tide 38 = .ok (.invokevirtual 233, 3) := by decide +kernel
theorem dX10_tide_41 : decode cX10_tide 41 = .ok (.ireturn, 1) := by decide +kernel
theorem dX10_go_0 : decode cX10_go 0 = .ok (.iload_n 1, 1) := by decide +kernel
theorem dX10_go_1 : decode cX10_go 1 = .ok (.i2l, 1) := by decide +kernel
theorem dX10_go_2 : decode cX10_go 2 = .ok (.lconst 0, 1) := by decide +kernel
theorem dX10_go_3 : decode cX10_go 3 = .ok (.ldc2_w 238, 3) := by decide +kernel
theorem dX10_go_6 : decode cX10_go 6 = .ok (.invokestatic 95, 3) := by decide +kernel
theorem dX10_go_9 : decode cX10_go 9 = .ok (.ifCond .ne 5, 3) := by decide +kernel
theorem dX10_go_12 : decode cX10_go 12 = .ok (.iconst (-1), 1) := by decide +kernel
theorem dX10_go_13 : decode cX10_go 13 = .ok (.ireturn, 1) := by decide +kernel
theorem dX10_go_14 : decode cX10_go 14 = .ok (.aload_n 0, 1) := by decide +kernel
theorem dX10_go_15 : decode cX10_go 15 = .ok (.getfield 7, 3) := by decide +kernel
theorem dX10_go_18 : decode cX10_go 18 = .ok (.bipush 45, 2) := by decide +kernel
theorem dX10_go_20 : decode cX10_go 20 = .ok (.iaload, 1) := by decide +kernel
theorem dX10_go_21 : decode cX10_go 21 = .ok (.iload_n 1, 1) := by decide +kernel
theorem dX10_go_22 : decode cX10_go 22 = .ok (.iadd, 1) := by decide +kernel
theorem dX10_go_23 : decode cX10_go 23 = .ok (.sipush 999, 3) := by decide +kernel
theorem dX10_go_26 : decode cX10_go 26 = .ok (.if_icmp .le 6, 3) := by decide +kernel
theorem dX10_go_29 : decode cX10_go 29 = .ok (.bipush (-3), 2) := by decide +kernel
theorem dX10_go_31 : decode cX10_go 31 = .ok (.ireturn, 1) := by decide +kernel
theorem dX10_go_32 : decode cX10_go 32 = .ok (.aload_n 0, 1) := by decide +kernel
theorem dX10_go_33 : decode cX10_go 33 = .ok (.invokevirtual 222, 3) := by decide +kernel
theorem dX10_go_36 : decode cX10_go 36 = .ok (.iconst 0, 1) := by decide +kernel
theorem dX10_go_37 : decode cX10_go 37 = .ok (.istore_n 2, 1) := by decide +kernel
theorem dX10_go_38 : decode cX10_go 38 = .ok (.iload_n 2, 1) := by decide +kernel
theorem dX10_go_39 : decode cX10_go 39 = .ok (.iload_n 1, 1) := by decide +kernel
theorem dX10_go_40 : decode cX10_go 40 = .ok (.if_icmp .ge 13, 3) := by decide +kernel
theorem dX10_go_43 : decode cX10_go 43 = .ok (.aload_n 0, 1) := by decide +kernel
theorem dX10_go_44 : decode cX10_go 44 = .ok (.invokevirtual 213, 3) := by decide +kernel
theorem dX10_go_47 : decode cX10_go 47 = .ok (.iinc 2 1, 3) := by decide +kernel
theorem dX10_go_50 : decode cX10_go 50 = .ok (.goto (-12), 3) := by decide +kernel
theorem dX10_go_53 : decode cX10_go 53 = .ok (.iconst 0, 1) := by decide +kernel
theorem dX10_go_54 : decode cX10_go 54 = .ok (.istore_n 2, 1) := by decide +kernel
theorem dX10_go_55 : decode cX10_go 55 = .ok (.iload_n 2, 1) := by decide +kernel
theorem dX10_go_56 : decode cX10_go 56 = .ok (.bipush 6, 2) := by decide +kernel
theorem dX10_go_58 : decode cX10_go 58 = .ok (.if_icmp .ge 24, 3) := by decide +kernel
theorem dX10_go_61 : decode cX10_go 61 = .ok (.aload_n 0, 1) := by decide +kernel
theorem dX10_go_62 : decode cX10_go 62 = .ok (.getfield 7, 3) := by decide +kernel
theorem dX10_go_65 : decode cX10_go 65 = .ok (.bipush 21, 2) := by decide +kernel
theorem dX10_go_67 : decode cX10_go 67 = .ok (.iload_n 2, 1) := by decide +kernel
theorem dX10_go_68 : decode cX10_go 68 = .ok (.iadd, 1) := by decide +kernel
theorem dX10_go_69 : decode cX10_go 69 = .ok (.aload_n 0, 1) := by decide +kernel
theorem dX10_go_70 : decode cX10_go 70 = .ok (.getfield 29, 3) := by decide +kernel
theorem dX10_go_73 : decode cX10_go 73 = .ok (.iload_n 2, 1) := by decide +kernel
theorem dX10_go_74 : decode cX10_go 74 = .ok (.iaload, 1) := by decide +kernel
theorem dX10_go_75 : decode cX10_go 75 = .ok (.iastore, 1) := by decide +kernel
theorem dX10_go_76 : decode cX10_go 76 = .ok (.iinc 2 1, 3) := by decide +kernel
theorem dX10_go_79 : decode cX10_go 79 = .ok (.goto (-24), 3) := by decide +kernel
theorem dX10_go_82 : decode cX10_go 82 = .ok (.iconst 0, 1) := by decide +kernel
theorem dX10_go_83 : decode cX10_go 83 = .ok (.istore_n 2, 1) := by decide +kernel
theorem dX10_go_84 : decode cX10_go 84 = .ok (.iload_n 2, 1) := by decide +kernel
theorem dX10_go_85 : decode cX10_go 85 = .ok (.iconst 4, 1) := by decide +kernel
theorem dX10_go_86 : decode cX10_go 86 = .ok (.if_icmp .ge 24, 3) := by decide +kernel
theorem dX10_go_89 : decode cX10_go 89 = .ok (.aload_n 0, 1) := by decide +kernel
theorem dX10_go_90 : decode cX10_go 90 = .ok (.getfield 7, 3) := by decide +kernel
theorem dX10_go_93 : decode cX10_go 93 = .ok (.bipush 39, 2) := by decide +kernel
theorem dX10_go_95 : decode cX10_go 95 = .ok (.iload_n 2, 1) := by decide +kernel
theorem dX10_go_96 : decode cX10_go 96 = .ok (.iadd, 1) := by decide +kernel
theorem dX10_go_97 : decode cX10_go 97 = .ok (.aload_n 0, 1) := by decide +kernel
theorem dX10_go_98 : decode cX10_go 98 = .ok (.getfield 41, 3) := by decide +kernel
theorem dX10_go_101 : decode cX10_go 101 = .ok (.iload_n 2, 1) := by decide +kernel
theorem dX10_go_102 : decode cX10_go 102 = .ok (.iaload, 1) := by decide +kernel
theorem dX10_go_103 : decode cX10_go 103 = .ok (.iastore, 1) := by decide +kernel
theorem dX10_go_104 : decode cX10_go 104 = .ok (.iinc 2 1, 3) := by decide +kernel
theorem dX10_go_107 : decode cX10_go 107 = .ok (.goto (-23), 3) := by decide +kernel
theorem dX10_go_110 : decode cX10_go 110 = .ok (.aload_n 0, 1) := by decide +kernel
theorem dX10_go_111 : decode cX10_go 111 = .ok (.getfield 7, 3) := by decide +kernel
theorem dX10_go_114 : decode cX10_go 114 = .ok (.bipush 45, 2) := by decide +kernel
theorem dX10_go_116 : decode cX10_go 116 = .ok (.aload_n 0, 1) := by decide +kernel
theorem dX10_go_117 : decode cX10_go 117 = .ok (.getfield 184, 3) := by decide +kernel
theorem dX10_go_120 : decode cX10_go 120 = .ok (.iastore, 1) := by decide +kernel
theorem dX10_go_121 : decode cX10_go 121 = .ok (.aload_n 0, 1) := by decide +kernel
theorem dX10_go_122 : decode cX10_go 122 = .ok (.invokevirtual 210, 3) := by decide +kernel
theorem dX10_go_125 : decode cX10_go 125 = .ok (.ireturn, 1) := by decide +kernel
theorem dX10_ahead_0 : decode cX10_ahead 0 = .ok (.aload_n 0, 1) := by decide +kernel
theorem dX10_ahead_1 : decode cX10_ahead 1 = .ok (.iload_n 1, 1) := by decide +kernel
theorem dX10_ahead_2 : decode cX10_ahead 2 = .ok (.invokevirtual 219, 3) := by decide +kernel
theorem dX10_ahead_5 : decode cX10_ahead 5 = .ok (.ifCond .eq 15, 3) := by decide +kernel
theorem dX10_ahead_8 : decode cX10_ahead 8 = .ok (.iload_n 2, 1) := by decide +kernel
theorem dX10_ahead_9 : decode cX10_ahead 9 = .ok (.i2l, 1) := by decide +kernel
theorem dX10_ahead_10 : decode cX10_ahead 10 = .ok (.lconst 0, 1) := by decide +kernel
theorem dX10_ahead_11 : decode cX10_ahead 11 = .ok (.ldc2_w 238, 3) := by decide +kernel
theorem dX10_ahead_14 : decode cX10_ahead 14 = .ok (.invokestatic 95, 3) := by decide +kernel
theorem dX10_ahead_17 : decode cX10_ahead 17 = .ok (.ifCond .ne 5, 3) := by decide +kernel
theorem dX10_ahead_20 : decode cX10_ahead 20 = .ok (.iconst (-1), 1) := by decide +kernel
theorem dX10_ahead_21 : decode cX10_ahead 21 = .ok (.ireturn, 1) := by decide +kernel
theorem dX10_ahead_22 : decode cX10_ahead 22 = .ok (.aload_n 0, 1) := by decide +kernel
theorem dX10_ahead_23 : decode cX10_ahead 23 = .ok (.invokevirtual 222, 3) := by decide +kernel
theorem dX10_ahead_26 : decode cX10_ahead 26 = .ok (.iconst 0, 1) := by decide +kernel
theorem dX10_ahead_27 : decode cX10_ahead 27 = .ok (.istore_n 3, 1) := by decide +kernel
theorem dX10_ahead_28 : decode cX10_ahead 28 = .ok (.iload_n 3, 1) := by decide +kernel
theorem dX10_ahead_29 : decode cX10_ahead 29 = .ok (.iload_n 2, 1) := by decide +kernel
theorem dX10_ahead_30 : decode cX10_ahead 30 = .ok (.if_icmp .ge 13, 3) := by decide +kernel
theorem dX10_ahead_33 : decode cX10_ahead 33 = .ok (.aload_n 0, 1) := by decide +kernel
theorem dX10_ahead_34 : decode cX10_ahead 34 = .ok (.invokevirtual 213, 3) := by decide +kernel
theorem dX10_ahead_37 : decode cX10_ahead 37 = .ok (.iinc 3 1, 3) := by decide +kernel
theorem dX10_ahead_40 : decode cX10_ahead 40 = .ok (.goto (-12), 3) := by decide +kernel
theorem dX10_ahead_43 : decode cX10_ahead 43 = .ok (.aload_n 0, 1) := by decide +kernel
theorem dX10_ahead_44 : decode cX10_ahead 44 = .ok (.getfield 29, 3) := by decide +kernel
theorem dX10_ahead_47 : decode cX10_ahead 47 = .ok (.iload_n 1, 1) := by decide +kernel
theorem dX10_ahead_48 : decode cX10_ahead 48 = .ok (.iaload, 1) := by decide +kernel
theorem dX10_ahead_49 : decode cX10_ahead 49 = .ok (.ireturn, 1) := by decide +kernel
theorem dX10_grow_0 : decode cX10_grow 0 = .ok (.aload_n 0, 1) := by decide +kernel
theorem dX10_grow_1 : decode cX10_grow 1 = .ok (.getfield 87, 3) := by decide +kernel
theorem dX10_grow_4 : decode cX10_grow 4 = .ok (.ifCond .ne 6, 3) := by decide +kernel
theorem dX10_grow_7 : decode cX10_grow 7 = .ok (.bipush (-2), 2) := by decide +kernel
theorem dX10_grow_9 : decode cX10_grow 9 = .ok (.ireturn, 1) := by decide +kernel
theorem dX10_grow_10 : decode cX10_grow 10 = .ok (.iconst 0, 1) := by decide +kernel
theorem dX10_grow_11 : decode cX10_grow 11 = .ok (.istore_n 1, 1) := by decide +kernel
theorem dX10_grow_12 : decode cX10_grow 12 = .ok (.iconst 0, 1) := by decide +kernel
theorem dX10_grow_13 : decode cX10_grow 13 = .ok (.istore_n 2, 1) := by decide +kernel
theorem dX10_grow_14 : decode cX10_grow 14 = .ok (.iload_n 2, 1) := by decide +kernel
theorem dX10_grow_15 : decode cX10_grow 15 = .ok (.aload_n 0, 1) := by decide +kernel
theorem dX10_grow_16 : decode cX10_grow 16 = .ok (.getfield 87, 3) := by decide +kernel
theorem dX10_grow_19 : decode cX10_grow 19 = .ok (.if_icmp .ge 104, 3) := by decide +kernel
theorem dX10_grow_22 : decode cX10_grow 22 = .ok (.aload_n 0, 1) := by decide +kernel
theorem dX10_grow_23 : decode cX10_grow 23 = .ok (.getfield 7, 3) := by decide +kernel
theorem dX10_grow_26 : decode cX10_grow 26 = .ok (.bipush 27, 2) := by decide +kernel
theorem dX10_grow_28 : decode cX10_grow 28 = .ok (.iload_n 2, 1) := by decide +kernel
theorem dX10_grow_29 : decode cX10_grow 29 = .ok (.iadd, 1) := by decide +kernel
theorem dX10_grow_30 : decode cX10_grow 30 = .ok (.dup2, 1) := by decide +kernel
theorem dX10_grow_31 : decode cX10_grow 31 = .ok (.iaload, 1) := by decide +kernel
theorem dX10_grow_32 : decode cX10_grow 32 = .ok (.aload_n 0, 1) := by decide +kernel
theorem dX10_grow_33 : decode cX10_grow 33 = .ok (.getfield 7, 3) := by decide +kernel
theorem dX10_grow_36 : decode cX10_grow 36 = .ok (.bipush 27, 2) := by decide +kernel
theorem dX10_grow_38 : decode cX10_grow 38 = .ok (.iload_n 2, 1) := by decide +kernel
theorem dX10_grow_39 : decode cX10_grow 39 = .ok (.iadd, 1) := by decide +kernel
theorem dX10_grow_40 : decode cX10_grow 40 = .ok (.iaload, 1) := by decide +kernel
theorem dX10_grow_41 : decode cX10_grow 41 = .ok (.bipush 9, 2) := by decide +kernel
theorem dX10_grow_43 : decode cX10_grow 43 = .ok (.if_icmp .ge 7, 3) := by decide +kernel
theorem dX10_grow_46 : decode cX10_grow 46 = .ok (.iconst 1, 1) := by decide +kernel
theorem dX10_grow_47 : decode cX10_grow 47 = .ok (.goto 4, 3) := by decide +kernel
theorem dX10_grow_50 : decode cX10_grow 50 = .ok (.iconst 0, 1) := by decide +kernel
theorem dX10_grow_51 : decode cX10_grow 51 = .ok (.invokestatic 158, 3) := by decide +kernel
theorem dX10_grow_54 : decode cX10_grow 54 = .ok (.iadd, 1) := by decide +kernel
theorem dX10_grow_55 : decode cX10_grow 55 = .ok (.iastore, 1) := by decide +kernel
theorem dX10_grow_56 : decode cX10_grow 56 = .ok (.aload_n 0, 1) := by decide +kernel
theorem dX10_grow_57 : decode cX10_grow 57 = .ok (.getfield 7, 3) := by decide +kernel
theorem dX10_grow_60 : decode cX10_grow 60 = .ok (.bipush 31, 2) := by decide +kernel
theorem dX10_grow_62 : decode cX10_grow 62 = .ok (.iload_n 2, 1) := by decide +kernel
theorem dX10_grow_63 : decode cX10_grow 63 = .ok (.iadd, 1) := by decide +kernel
theorem dX10_grow_64 : decode cX10_grow 64 = .ok (.dup2, 1) := by decide +kernel
theorem dX10_grow_65 : decode cX10_grow 65 = .ok (.iaload, 1) := by decide +kernel
theorem dX10_grow_66 : decode cX10_grow 66 = .ok (.aload_n 0, 1) := by decide +kernel
theorem dX10_grow_67 : decode cX10_grow 67 = .ok (.getfield 7, 3) := by decide +kernel
theorem dX10_grow_70 : decode cX10_grow 70 = .ok (.bipush 31, 2) := by decide +kernel
theorem dX10_grow_72 : decode cX10_grow 72 = .ok (.iload_n 2, 1) := by decide +kernel
theorem dX10_grow_73 : decode cX10_grow 73 = .ok (.iadd, 1) := by decide +kernel
theorem dX10_grow_74 : decode cX10_grow 74 = .ok (.iaload, 1) := by decide +kernel
theorem dX10_grow_75 : decode cX10_grow 75 = .ok (.bipush 9, 2) := by decide +kernel
theorem dX10_grow_77 : decode cX10_grow 77 = .ok (.if_icmp .ge 7, 3) := by decide +kernel
theorem dX10_grow_80 : decode cX10_grow 80 = .ok (.iconst 1, 1) := by decide +kernel
theorem dX10_grow_81 : decode cX10_grow 81 = .ok (.goto 4, 3) := by decide +kernel
theorem dX10_grow_84 : decode cX10_grow 84 = .ok (.iconst 0, 1) := by decide +kernel
theorem dX10_grow_85 : decode cX10_grow 85 = .ok (.invokestatic 158, 3) := by decide +kernel
theorem dX10_grow_88 : decode cX10_grow 88 = .ok (.iadd, 1) := by decide +kernel
theorem dX10_grow_89 : decode cX10_grow 89 = .ok (.iastore, 1) := by decide +kernel
theorem dX10_grow_90 : decode cX10_grow 90 = .ok (.aload_n 0, 1) := by decide +kernel
theorem dX10_grow_91 : decode cX10_grow 91 = .ok (.getfield 7, 3) := by decide +kernel
theorem dX10_grow_94 : decode cX10_grow 94 = .ok (.bipush 27, 2) := by decide +kernel
theorem dX10_grow_96 : decode cX10_grow 96 = .ok (.iload_n 2, 1) := by decide +kernel
theorem dX10_grow_97 : decode cX10_grow 97 = .ok (.iadd, 1) := by decide +kernel
theorem dX10_grow_98 : decode cX10_grow 98 = .ok (.iaload, 1) := by decide +kernel
theorem dX10_grow_99 : decode cX10_grow 99 = .ok (.iload_n 1, 1) := by decide +kernel
theorem dX10_grow_100 : decode cX10_grow 100 = .ok (.if_icmp .le 15, 3) := by decide +kernel
theorem dX10_grow_103 : decode cX10_grow 103 = .ok (.aload_n 0, 1) := by decide +kernel
theorem dX10_grow_104 : decode cX10_grow 104 = .ok (.getfield 7, 3) := by decide +kernel
theorem dX10_grow_107 : decode cX10_grow 107 = .ok (.bipush 27, 2) := by decide +kernel
theorem dX10_grow_109 : decode cX10_grow 109 = .ok (.iload_n 2, 1) := by decide +kernel
theorem dX10_grow_110 : decode cX10_grow 110 = .ok (.iadd, 1) := by decide +kernel
theorem dX10_grow_111 : decode cX10_grow 111 = .ok (.iaload, 1) := by decide +kernel
theorem dX10_grow_112 : decode cX10_grow 112 = .ok (.goto 4, 3) := by decide +kernel
theorem dX10_grow_115 : decode cX10_grow 115 = .ok (.iload_n 1, 1) := by decide +kernel
theorem dX10_grow_116 : decode cX10_grow 116 = .ok (.istore_n 1, 1) := by decide +kernel
theorem dX10_grow_117 : decode cX10_grow 117 = .ok (.iinc 2 1, 3) := by decide +kernel
theorem dX10_grow_120 : decode cX10_grow 120 = .ok (.goto (-106), 3) := by decide +kernel
theorem dX10_grow_123 : decode cX10_grow 123 = .ok (.iload_n 1, 1) := by decide +kernel
theorem dX10_grow_124 : decode cX10_grow 124 = .ok (.ireturn, 1) := by decide +kernel
theorem dX10_sorted_0 : decode cX10_sorted 0 = .ok (.aload_n 0, 1) := by decide +kernel
theorem dX10_sorted_1 : decode cX10_sorted 1 = .ok (.invokevirtual 222, 3) := by decide +kernel
theorem dX10_sorted_4 : decode cX10_sorted 4 = .ok (.aload_n 0, 1) := by decide +kernel
theorem dX10_sorted_5 : decode cX10_sorted 5 = .ok (.invokevirtual 240, 3) := by decide +kernel
theorem dX10_sorted_8 : decode cX10_sorted 8 = .ok (.ireturn, 1) := by decide +kernel
theorem dX10_nextOrder_0 : decode cX10_nextOrder 0 = .ok (.aload_n 0, 1) := by decide +kernel
theorem dX10_nextOrder_1 : decode cX10_nextOrder 1 = .ok (.getfield 87, 3) := by decide +kernel
theorem dX10_nextOrder_4 : decode cX10_nextOrder 4 = .ok (.iconst 2, 1) := by decide +kernel
theorem dX10_nextOrder_5 : decode cX10_nextOrder 5 = .ok (.isub, 1) := by decide +kernel
theorem dX10_nextOrder_6 : decode cX10_nextOrder 6 = .ok (.istore_n 1, 1) := by decide +kernel
theorem dX10_nextOrder_7 : decode cX10_nextOrder 7 = .ok (.iload_n 1, 1) := by decide +kernel
theorem dX10_nextOrder_8 : decode cX10_nextOrder 8 = .ok (.ifCond .lt 26, 3) := by decide +kernel
theorem dX10_nextOrder_11 : decode cX10_nextOrder 11 = .ok (.aload_n 0, 1) := by decide +kernel
theorem dX10_nextOrder_12 : decode cX10_nextOrder 12 = .ok (.getfield 50, 3) := by decide +kernel
theorem dX10_nextOrder_15 : decode cX10_nextOrder 15 = .ok (.iload_n 1, 1) := by decide +kernel
theorem dX10_nextOrder_16 : decode cX10_nextOrder 16 = .ok (.iaload, 1) := by decide +kernel
theorem dX10_nextOrder_17 : decode cX10_nextOrder 17 = .ok (.aload_n 0, 1) := by decide +kernel
theorem dX10_nextOrder_18 : decode cX10_nextOrder 18 = .ok (.getfield 50, 3) := by decide +kernel
theorem dX10_nextOrder_21 : decode cX10_nextOrder 21 = .ok (.iload_n 1, 1) := by decide +kernel
theorem dX10_nextOrder_22 : decode cX10_nextOrder 22 = .ok (.iconst 1, 1) := by decide +kernel
theorem dX10_nextOrder_23 : decode cX10_nextOrder 23 = .ok (.iadd, 1) := by decide +kernel
theorem dX10_nextOrder_24 : decode cX10_nextOrder 24 = .ok (.iaload, 1) := by decide +kernel
theorem dX10_nextOrder_25 : decode cX10_nextOrder 25 = .ok (.if_icmp .le 9, 3) := by decide +kernel
theorem dX10_nextOrder_28 : decode cX10_nextOrder 28 = .ok (.iinc 1 (-1), 3) := by decide +kernel
theorem dX10_nextOrder_31 : decode cX10_nextOrder 31 = .ok (.goto (-24), 3) := by decide +kernel
theorem dX10_nextOrder_34 : decode cX10_nextOrder 34 = .ok (.iload_n 1, 1) := by decide +kernel
theorem dX10_nextOrder_35 : decode cX10_nextOrder 35 = .ok (.ifCond .ge 5, 3) := by decide +kernel
theorem dX10_nextOrder_38 : decode cX10_nextOrder 38 = .ok (.iconst 0, 1) := by decide +kernel
theorem dX10_nextOrder_39 : decode cX10_nextOrder 39 = .ok (.ireturn, 1) := by decide +kernel
theorem dX10_nextOrder_40 : decode cX10_nextOrder 40 = .ok (.aload_n 0, 1) := by decide +kernel
theorem dX10_nextOrder_41 : decode cX10_nextOrder 41 = .ok (.getfield 87, 3) := by decide +kernel
theorem dX10_nextOrder_44 : decode cX10_nextOrder 44 = .ok (.iconst 1, 1) := by decide +kernel
theorem dX10_nextOrder_45 : decode cX10_nextOrder 45 = .ok (.isub, 1) := by decide +kernel
theorem dX10_nextOrder_46 : decode cX10_nextOrder 46 = .ok (.istore_n 2, 1) := by decide +kernel
theorem dX10_nextOrder_47 : decode cX10_nextOrder 47 = .ok (.aload_n 0, 1) := by decide +kernel
theorem dX10_nextOrder_48 : decode cX10_nextOrder 48 = .ok (.getfield 50, 3) := by decide +kernel
theorem dX10_nextOrder_51 : decode cX10_nextOrder 51 = .ok (.iload_n 2, 1) := by decide +kernel
theorem dX10_nextOrder_52 : decode cX10_nextOrder 52 = .ok (.iaload, 1) := by decide +kernel
theorem dX10_nextOrder_53 : decode cX10_nextOrder 53 = .ok (.aload_n 0, 1) := by decide +kernel
theorem dX10_nextOrder_54 : decode cX10_nextOrder 54 = .ok (.getfield 50, 3) := by decide +kernel
theorem dX10_nextOrder_57 : decode cX10_nextOrder 57 = .ok (.iload_n 1, 1) := by decide +kernel
theorem dX10_nextOrder_58 : decode cX10_nextOrder 58 = .ok (.iaload, 1) := by decide +kernel
theorem dX10_nextOrder_59 : decode cX10_nextOrder 59 = .ok (.if_icmp .ge 9, 3) := by decide +kernel
theorem dX10_nextOrder_62 : decode cX10_nextOrder 62 = .ok (.iinc 2 (-1), 3) := by decide +kernel
theorem dX10_nextOrder_65 : decode cX10_nextOrder 65 = .ok (.goto (-18), 3) := by decide +kernel
theorem dX10_nextOrder_68 : decode cX10_nextOrder 68 = .ok (.aload_n 0, 1) := by decide +kernel
theorem dX10_nextOrder_69 : decode cX10_nextOrder 69 = .ok (.getfield 50, 3) := by decide +kernel
theorem dX10_nextOrder_72 : decode cX10_nextOrder 72 = .ok (.iload_n 1, 1) := by decide +kernel
theorem dX10_nextOrder_73 : decode cX10_nextOrder 73 = .ok (.iaload, 1) := by decide +kernel
theorem dX10_nextOrder_74 : decode cX10_nextOrder 74 = .ok (.istore_n 3, 1) := by decide +kernel
theorem dX10_nextOrder_75 : decode cX10_nextOrder 75 = .ok (.aload_n 0, 1) := by decide +kernel
theorem dX10_nextOrder_76 : decode cX10_nextOrder 76 = .ok (.getfield 50, 3) := by decide +kernel
theorem dX10_nextOrder_79 : decode cX10_nextOrder 79 = .ok (.iload_n 1, 1) := by decide +kernel
theorem dX10_nextOrder_80 : decode cX10_nextOrder 80 = .ok (.aload_n 0, 1) := by decide +kernel
theorem dX10_nextOrder_81 : decode cX10_nextOrder 81 = .ok (.getfield 50, 3) := by decide +kernel
theorem dX10_nextOrder_84 : decode cX10_nextOrder 84 = .ok (.iload_n 2, 1) := by decide +kernel
theorem dX10_nextOrder_85 : decode cX10_nextOrder 85 = .ok (.iaload, 1) := by decide +kernel
theorem dX10_nextOrder_86 : decode cX10_nextOrder 86 = .ok (.iastore, 1) := by decide +kernel
theorem dX10_nextOrder_87 : decode cX10_nextOrder 87 = .ok (.aload_n 0, 1) := by decide +kernel
theorem dX10_nextOrder_88 : decode cX10_nextOrder 88 = .ok (.getfield 50, 3) := by decide +kernel
theorem dX10_nextOrder_91 : decode cX10_nextOrder 91 = .ok (.iload_n 2, 1) := by decide +kernel
theorem dX10_nextOrder_92 : decode cX10_nextOrder 92 = .ok (.iload_n 3, 1) := by decide +kernel
theorem dX10_nextOrder_93 : decode cX10_nextOrder 93 = .ok (.iastore, 1) := by decide +kernel
theorem dX10_nextOrder_94 : decode cX10_nextOrder 94 = .ok (.iload_n 1, 1) := by decide +kernel
theorem dX10_nextOrder_95 : decode cX10_nextOrder 95 = .ok (.iconst 1, 1) := by decide +kernel
theorem dX10_nextOrder_96 : decode cX10_nextOrder 96 = .ok (.iadd, 1) := by decide +kernel
theorem dX10_nextOrder_97 : decode cX10_nextOrder 97 = .ok (.istore 4, 2) := by decide +kernel
theorem dX10_nextOrder_99 : decode cX10_nextOrder 99 = .ok (.iload 4, 2) := by decide +kernel
theorem dX10_nextOrder_101 : decode cX10_nextOrder 101 = .ok (.aload_n 0, 1) := by decide +kernel
theorem dX10_nextOrder_102 : decode cX10_nextOrder 102 = .ok (.getfield 87, 3) := by decide +kernel
theorem dX10_nextOrder_105 : decode cX10_nextOrder 105 = .ok (.iload_n 1, 1) := by decide +kernel
theorem dX10_nextOrder_106 : decode cX10_nextOrder 106 = .ok (.iadd, 1) := by decide +kernel
theorem dX10_nextOrder_107 : decode cX10_nextOrder 107 = .ok (.iload 4, 2) := by decide +kernel
theorem dX10_nextOrder_109 : decode cX10_nextOrder 109 = .ok (.isub, 1) := by decide +kernel
theorem dX10_nextOrder_110 : decode cX10_nextOrder 110 = .ok (.if_icmp .ge 50, 3) := by decide +kernel
theorem dX10_nextOrder_113 : decode cX10_nextOrder 113 = .ok (.aload_n 0, 1) := by decide +kernel
theorem dX10_nextOrder_114 : decode cX10_nextOrder 114 = .ok (.getfield 87, 3) := by decide +kernel
theorem dX10_nextOrder_117 : decode cX10_nextOrder 117 = .ok (.iload_n 1, 1) := by decide +kernel
theorem dX10_nextOrder_118 : decode cX10_nextOrder 118 = .ok (.iadd, 1) := by decide +kernel
theorem dX10_nextOrder_119 : decode cX10_nextOrder 119 = .ok (.iload 4, 2) := by decide +kernel
theorem dX10_nextOrder_121 : decode cX10_nextOrder 121 = .ok (.isub, 1) := by decide +kernel
theorem dX10_nextOrder_122 : decode cX10_nextOrder 122 = .ok (.istore 5, 2) := by decide +kernel
theorem dX10_nextOrder_124 : decode cX10_nextOrder 124 = .ok (.aload_n 0, 1) := by decide +kernel
theorem dX10_nextOrder_125 : decode cX10_nextOrder 125 = .ok (.getfield 50, 3) := by decide +kernel
theorem dX10_nextOrder_128 : decode cX10_nextOrder 128 = .ok (.iload 4, 2) := by decide +kernel
theorem dX10_nextOrder_130 : decode cX10_nextOrder 130 = .ok (.iaload, 1) := by decide +kernel
theorem dX10_nextOrder_131 : decode cX10_nextOrder 131 = .ok (.istore_n 3, 1) := by decide +kernel
theorem dX10_nextOrder_132 : decode cX10_nextOrder 132 = .ok (.aload_n 0, 1) := by decide +kernel
theorem dX10_nextOrder_133 : decode cX10_nextOrder 133 = .ok (.getfield 50, 3) := by decide +kernel
theorem dX10_nextOrder_136 : decode cX10_nextOrder 136 = .ok (.iload 4, 2) := by decide +kernel
theorem dX10_nextOrder_138 : decode cX10_nextOrder 138 = .ok (.aload_n 0, 1) := by decide +kernel
theorem dX10_nextOrder_139 : decode cX10_nextOrder 139 = .ok (.getfield 50, 3) := by decide +kernel
theorem dX10_nextOrder_142 : decode cX10_nextOrder 142 = .ok (.iload 5, 2) := by decide +kernel
theorem dX10_nextOrder_144 : decode cX10_nextOrder 144 = .ok (.iaload, 1) := by decide +kernel
theorem dX10_nextOrder_145 : decode cX10_nextOrder 145 = .ok (.iastore, 1) := by decide +kernel
theorem dX10_nextOrder_146 : decode cX10_nextOrder 146 = .ok (.aload_n 0, 1) := by decide +kernel
theorem dX10_nextOrder_147 : decode cX10_nextOrder 147 = .ok (.getfield 50, 3) := by decide +kernel
theorem dX10_nextOrder_150 : decode cX10_nextOrder 150 = .ok (.iload 5, 2) := by decide +kernel
theorem dX10_nextOrder_152 : decode cX10_nextOrder 152 = .ok (.iload_n 3, 1) := by decide +kernel
theorem dX10_nextOrder_153 : decode cX10_nextOrder 153 = .ok (.iastore, 1) := by decide +kernel
theorem dX10_nextOrder_154 : decode cX10_nextOrder 154 = .ok (.iinc 4 1, 3) := by decide +kernel
theorem dX10_nextOrder_157 : decode cX10_nextOrder 157 = .ok (.goto (-58), 3) := by decide +kernel
theorem dX10_nextOrder_160 : decode cX10_nextOrder 160 = .ok (.iconst 1, 1) := by decide +kernel
theorem dX10_nextOrder_161 : decode cX10_nextOrder 161 = .ok (.ireturn, 1) := by decide +kernel
theorem dX10_orders_0 : decode cX10_orders 0 = .ok (.iload_n 1, 1) := by decide +kernel
theorem dX10_orders_1 : decode cX10_orders 1 = .ok (.i2l, 1) := by decide +kernel
theorem dX10_orders_2 : decode cX10_orders 2 = .ok (.lconst 0, 1) := by decide +kernel
theorem dX10_orders_3 : decode cX10_orders 3 = .ok (.lconst 1, 1) := by decide +kernel
theorem dX10_orders_4 : decode cX10_orders 4 = .ok (.invokestatic 95, 3) := by decide +kernel
theorem dX10_orders_7 : decode cX10_orders 7 = .ok (.ifCond .ne 19, 3) := by decide +kernel
theorem dX10_orders_10 : decode cX10_orders 10 = .ok (.iload_n 1, 1) := by decide +kernel
theorem dX10_orders_11 : decode cX10_orders 11 = .ok (.i2l, 1) := by decide +kernel
theorem dX10_orders_12 : decode cX10_orders 12 = .ok (.ldc2_w 243, 3) := by decide +kernel
theorem dX10_orders_15 : decode cX10_orders 15 = .ok (.ldc2_w 245, 3) := by decide +kernel
theorem dX10_orders_18 : decode cX10_orders 18 = .ok (.invokestatic 95, 3) := by decide +kernel
theorem dX10_orders_21 : decode cX10_orders 21 = .ok (.ifCond .ne 5, 3) := by decide +kernel
theorem dX10_orders_24 : decode cX10_orders 24 = .ok (.iconst (-1), 1) := by decide +kernel
theorem dX10_orders_25 : decode cX10_orders 25 = .ok (.ireturn, 1) := by decide +kernel
theorem dX10_orders_26 : decode cX10_orders 26 = .ok (.iconst 0, 1) := by decide +kernel
theorem dX10_orders_27 : decode cX10_orders 27 = .ok (.istore_n 2, 1) := by decide +kernel
theorem dX10_orders_28 : decode cX10_orders 28 = .ok (.iload_n 2, 1) := by decide +kernel
theorem dX10_orders_29 : decode cX10_orders 29 = .ok (.iconst 4, 1) := by decide +kernel
theorem dX10_orders_30 : decode cX10_orders 30 = .ok (.if_icmp .ge 16, 3) := by decide +kernel
theorem dX10_orders_33 : decode cX10_orders 33 = .ok (.aload_n 0, 1) := by decide +kernel
theorem dX10_orders_34 : decode cX10_orders 34 = .ok (.getfield 50, 3) := by decide +kernel
theorem dX10_orders_37 : decode cX10_orders 37 = .ok (.iload_n 2, 1) := by decide +kernel
theorem dX10_orders_38 : decode cX10_orders 38 = .ok (.iload_n 2, 1) := by decide +kernel
theorem dX10_orders_39 : decode cX10_orders 39 = .ok (.iastore, 1) := by decide +kernel
theorem dX10_orders_40 : decode cX10_orders 40 = .ok (.iinc 2 1, 3) := by decide +kernel
theorem dX10_orders_43 : decode cX10_orders 43 = .ok (.goto (-15), 3) := by decide +kernel
theorem dX10_orders_46 : decode cX10_orders 46 = .ok (.iconst 0, 1) := by decide +kernel
theorem dX10_orders_47 : decode cX10_orders 47 = .ok (.istore_n 2, 1) := by decide +kernel
theorem dX10_orders_48 : decode cX10_orders 48 = .ok (.bipush (-4), 2) := by decide +kernel
theorem dX10_orders_50 : decode cX10_orders 50 = .ok (.istore_n 3, 1) := by decide +kernel
theorem dX10_orders_51 : decode cX10_orders 51 = .ok (.iconst 1, 1) := by decide +kernel
theorem dX10_orders_52 : decode cX10_orders 52 = .ok (.istore 4, 2) := by decide +kernel
theorem dX10_orders_54 : decode cX10_orders 54 = .ok (.iload 4, 2) := by decide +kernel
theorem dX10_orders_56 : decode cX10_orders 56 = .ok (.ifCond .eq 147, 3) := by decide +kernel
theorem dX10_orders_59 : decode cX10_orders 59 = .ok (.aload_n 0, 1) := by decide +kernel
theorem dX10_orders_60 : decode cX10_orders 60 = .ok (.invokevirtual 222, 3) := by decide +kernel
theorem dX10_orders_63 : decode cX10_orders 63 = .ok (.iconst 0, 1) := by decide +kernel
theorem dX10_orders_64 : decode cX10_orders 64 = .ok (.istore 5, 2) := by decide +kernel
theorem dX10_orders_66 : decode cX10_orders 66 = .ok (.iload 5, 2) := by decide +kernel
theorem dX10_orders_68 : decode cX10_orders 68 = .ok (.aload_n 0, 1) := by decide +kernel
theorem dX10_orders_69 : decode cX10_orders 69 = .ok (.getfield 87, 3) := by decide +kernel
theorem dX10_orders_72 : decode cX10_orders 72 = .ok (.if_icmp .ge 23, 3) := by decide +kernel
theorem dX10_orders_75 : decode cX10_orders 75 = .ok (.aload_n 0, 1) := by decide +kernel
theorem dX10_orders_76 : decode cX10_orders 76 = .ok (.getfield 44, 3) := by decide +kernel
theorem dX10_orders_79 : decode cX10_orders 79 = .ok (.iload 5, 2) := by decide +kernel
theorem dX10_orders_81 : decode cX10_orders 81 = .ok (.aload_n 0, 1) := by decide +kernel
theorem dX10_orders_82 : decode cX10_orders 82 = .ok (.getfield 50, 3) := by decide +kernel
theorem dX10_orders_85 : decode cX10_orders 85 = .ok (.iload 5, 2) := by decide +kernel
theorem dX10_orders_87 : decode cX10_orders 87 = .ok (.iaload, 1) := by decide +kernel
theorem dX10_orders_88 : decode cX10_orders 88 = .ok (.iastore, 1) := by decide +kernel
theorem dX10_orders_89 : decode cX10_orders 89 = .ok (.iinc 5 1, 3) := by decide +kernel
theorem dX10_orders_92 : decode cX10_orders 92 = .ok (.goto (-26), 3) := by decide +kernel
theorem dX10_orders_95 : decode cX10_orders 95 = .ok (.aload_n 0, 1) := by decide +kernel
theorem dX10_orders_96 : decode cX10_orders 96 = .ok (.invokevirtual 240, 3) := by decide +kernel
theorem dX10_orders_99 : decode cX10_orders 99 = .ok (.istore 5, 2) := by decide +kernel
theorem dX10_orders_101 : decode cX10_orders 101 = .ok (.iload 5, 2) := by decide +kernel
theorem dX10_orders_103 : decode cX10_orders 103 = .ok (.bipush (-4), 2) := by decide +kernel
theorem dX10_orders_105 : decode cX10_orders 105 = .ok (.if_icmp .eq 19, 3) := by decide +kernel
theorem dX10_orders_108 : decode cX10_orders 108 = .ok (.iload_n 3, 1) := by decide +kernel
theorem dX10_orders_109 : decode cX10_orders 109 = .ok (.bipush (-4), 2) := by decide +kernel
theorem dX10_orders_111 : decode cX10_orders 111 = .ok (.if_icmp .eq 9, 3) := by decide +kernel
theorem dX10_orders_114 : decode cX10_orders 114 = .ok (.iload 5, 2) := by decide +kernel
theorem dX10_orders_116 : decode cX10_orders 116 = .ok (.iload_n 3, 1) := by decide +kernel
theorem dX10_orders_117 : decode cX10_orders 117 = .ok (.if_icmp .ge 7, 3) := by decide +kernel
theorem dX10_orders_120 : decode cX10_orders 120 = .ok (.iconst 1, 1) := by decide +kernel
theorem dX10_orders_121 : decode cX10_orders 121 = .ok (.goto 4, 3) := by decide +kernel
theorem dX10_orders_124 : decode cX10_orders 124 = .ok (.iconst 0, 1) := by decide +kernel
theorem dX10_orders_125 : decode cX10_orders 125 = .ok (.istore 6, 2) := by decide +kernel
theorem dX10_orders_127 : decode cX10_orders 127 = .ok (.iconst 0, 1) := by decide +kernel
theorem dX10_orders_128 : decode cX10_orders 128 = .ok (.istore 7, 2) := by decide +kernel
theorem dX10_orders_130 : decode cX10_orders 130 = .ok (.iload 7, 2) := by decide +kernel
theorem dX10_orders_132 : decode cX10_orders 132 = .ok (.aload_n 0, 1) := by decide +kernel
theorem dX10_orders_133 : decode cX10_orders 133 = .ok (.getfield 87, 3) := by decide +kernel
theorem dX10_orders_136 : decode cX10_orders 136 = .ok (.if_icmp .ge 28, 3) := by decide +kernel
theorem dX10_orders_139 : decode cX10_orders 139 = .ok (.iload 6, 2) := by decide +kernel
theorem dX10_orders_141 : decode cX10_orders 141 = .ok (.ifCond .eq 23, 3) := by decide +kernel
theorem dX10_orders_144 : decode cX10_orders 144 = .ok (.aload_n 0, 1) := by decide +kernel
theorem dX10_orders_145 : decode cX10_orders 145 = .ok (.getfield 53, 3) := by decide +kernel
theorem dX10_orders_148 : decode cX10_orders 148 = .ok (.iload 7, 2) := by decide +kernel
theorem dX10_orders_150 : decode cX10_orders 150 = .ok (.aload_n 0, 1) := by decide +kernel
theorem dX10_orders_151 : decode cX10_orders 151 = .ok (.getfield 50, 3) := by decide +kernel
theorem dX10_orders_154 : decode cX10_orders 154 = .ok (.iload 7, 2) := by decide +kernel
theorem dX10_orders_156 : decode cX10_orders 156 = .ok (.iaload, 1) := by decide +kernel
theorem dX10_orders_157 : decode cX10_orders 157 = .ok (.iastore, 1) := by decide +kernel
theorem dX10_orders_158 : decode cX10_orders 158 = .ok (.iinc 7 1, 3) := by decide +kernel
theorem dX10_orders_161 : decode cX10_orders 161 = .ok (.goto (-31), 3) := by decide +kernel
theorem dX10_orders_164 : decode cX10_orders 164 = .ok (.iload_n 2, 1) := by decide +kernel
theorem dX10_orders_165 : decode cX10_orders 165 = .ok (.iload 5, 2) := by decide +kernel
theorem dX10_orders_167 : decode cX10_orders 167 = .ok (.bipush (-4), 2) := by decide +kernel
theorem dX10_orders_169 : decode cX10_orders 169 = .ok (.if_icmp .eq 7, 3) := by decide +kernel
theorem dX10_orders_172 : decode cX10_orders 172 = .ok (.iconst 1, 1) := by decide +kernel
theorem dX10_orders_173 : decode cX10_orders 173 = .ok (.goto 4, 3) := by decide +kernel
theorem dX10_orders_176 : decode cX10_orders 176 = .ok (.iconst 0, 1) := by decide +kernel
theorem dX10_orders_177 : decode cX10_orders 177 = .ok (.invokestatic 158, 3) := by decide +kernel
theorem dX10_orders_180 : decode cX10_orders 180 = .ok (.iadd, 1) := by decide +kernel
theorem dX10_orders_181 : decode cX10_orders 181 = .ok (.istore_n 2, 1) := by decide +kernel
theorem dX10_orders_182 : decode cX10_orders 182 = .ok (.iload 6, 2) := by decide +kernel
theorem dX10_orders_184 : decode cX10_orders 184 = .ok (.ifCond .eq 8, 3) := by decide +kernel
theorem dX10_orders_187 : decode cX10_orders 187 = .ok (.iload 5, 2) := by decide +kernel
theorem dX10_orders_189 : decode cX10_orders 189 = .ok (.goto 4, 3) := by decide +kernel
theorem dX10_orders_192 : decode cX10_orders 192 = .ok (.iload_n 3, 1) := by decide +kernel
theorem dX10_orders_193 : decode cX10_orders 193 = .ok (.istore_n 3, 1) := by decide +kernel
theorem dX10_orders_194 : decode cX10_orders 194 = .ok (.aload_n 0, 1) := by decide +kernel
theorem dX10_orders_195 : decode cX10_orders 195 = .ok (.invokevirtual 247, 3) := by decide +kernel
theorem dX10_orders_198 : decode cX10_orders 198 = .ok (.istore 4, 2) := by decide +kernel
theorem dX10_orders_200 : decode cX10_orders 200 = .ok (.goto (-146), 3) := by decide +kernel
theorem dX10_orders_203 : decode cX10_orders 203 = .ok (.iload_n 1, 1) := by decide +kernel
theorem dX10_orders_204 : decode cX10_orders 204 = .ok (.ifCond .eq 7, 3) := by decide +kernel
theorem dX10_orders_207 : decode cX10_orders 207 = .ok (.iload_n 2, 1) := by decide +kernel
theorem dX10_orders_208 : decode cX10_orders 208 = .ok (.ifCond .ne 14, 3) := by decide +kernel
theorem dX10_orders_211 : decode cX10_orders 211 = .ok (.iload_n 1, 1) := by decide +kernel
theorem dX10_orders_212 : decode cX10_orders 212 = .ok (.ifCond .ne 7, 3) := by decide +kernel
theorem dX10_orders_215 : decode cX10_orders 215 = .ok (.iload_n 2, 1) := by decide +kernel
theorem dX10_orders_216 : decode cX10_orders 216 = .ok (.goto 5, 3) := by decide +kernel
theorem dX10_orders_219 : decode cX10_orders 219 = .ok (.bipush (-4), 2) := by decide +kernel
theorem dX10_orders_221 : decode cX10_orders 221 = .ok (.ireturn, 1) := by decide +kernel
theorem dX10_orders_222 : decode cX10_orders 222 = .ok (.iload_n 1, 1) := by decide +kernel
theorem dX10_orders_223 : decode cX10_orders 223 = .ok (.iconst 1, 1) := by decide +kernel
theorem dX10_orders_224 : decode cX10_orders 224 = .ok (.if_icmp .ne 7, 3) := by decide +kernel
theorem dX10_orders_227 : decode cX10_orders 227 = .ok (.iload_n 3, 1) := by decide +kernel
theorem dX10_orders_228 : decode cX10_orders 228 = .ok (.goto 28, 3) := by decide +kernel
theorem dX10_orders_231 : decode cX10_orders 231 = .ok (.iload_n 1, 1) := by decide +kernel
theorem dX10_orders_232 : decode cX10_orders 232 = .ok (.bipush 10, 2) := by decide +kernel
theorem dX10_orders_234 : decode cX10_orders 234 = .ok (.isub, 1) := by decide +kernel
theorem dX10_orders_235 : decode cX10_orders 235 = .ok (.aload_n 0, 1) := by decide +kernel
theorem dX10_orders_236 : decode cX10_orders 236 = .ok (.getfield 87, 3) := by decide +kernel
theorem dX10_orders_239 : decode cX10_orders 239 = .ok (.if_icmp .ge 15, 3) := by decide +kernel
theorem dX10_orders_242 : decode cX10_orders 242 = .ok (.aload_n 0, 1) := by decide +kernel
theorem dX10_orders_243 : decode cX10_orders 243 = .ok (.getfield 53, 3) := by decide +kernel
theorem dX10_orders_246 : decode cX10_orders 246 = .ok (.iload_n 1, 1) := by decide +kernel
theorem dX10_orders_247 : decode cX10_orders 247 = .ok (.bipush 10, 2) := by decide +kernel
theorem dX10_orders_249 : decode cX10_orders 249 = .ok (.isub, 1) := by decide +kernel
theorem dX10_orders_250 : decode cX10_orders 250 = .ok (.iaload, 1) := by decide +kernel
theorem dX10_orders_251 : decode cX10_orders 251 = .ok (.goto 5, 3) := by decide +kernel
theorem dX10_orders_254 : decode cX10_orders 254 = .ok (.bipush (-4), 2) := by decide +kernel
theorem dX10_orders_256 : decode cX10_orders 256 = .ok (.ireturn, 1) := by decide +kernel
theorem dX10_fewest_0 : decode cX10_fewest 0 = .ok (.iload_n 1, 1) := by decide +kernel
theorem dX10_fewest_1 : decode cX10_fewest 1 = .ok (.i2l, 1) := by decide +kernel
theorem dX10_fewest_2 : decode cX10_fewest 2 = .ok (.lconst 0, 1) := by decide +kernel
theorem dX10_fewest_3 : decode cX10_fewest 3 = .ok (.lconst 1, 1) := by decide +kernel
theorem dX10_fewest_4 : decode cX10_fewest 4 = .ok (.invokestatic 95, 3) := by decide +kernel
theorem dX10_fewest_7 : decode cX10_fewest 7 = .ok (.ifCond .ne 5, 3) := by decide +kernel
theorem dX10_fewest_10 : decode cX10_fewest 10 = .ok (.iconst (-1), 1) := by decide +kernel
theorem dX10_fewest_11 : decode cX10_fewest 11 = .ok (.ireturn, 1) := by decide +kernel
theorem dX10_fewest_12 : decode cX10_fewest 12 = .ok (.bipush (-4), 2) := by decide +kernel
theorem dX10_fewest_14 : decode cX10_fewest 14 = .ok (.istore_n 2, 1) := by decide +kernel
theorem dX10_fewest_15 : decode cX10_fewest 15 = .ok (.bipush (-4), 2) := by decide +kernel
theorem dX10_fewest_17 : decode cX10_fewest 17 = .ok (.istore_n 3, 1) := by decide +kernel
theorem dX10_fewest_18 : decode cX10_fewest 18 = .ok (.iconst 0, 1) := by decide +kernel
theorem dX10_fewest_19 : decode cX10_fewest 19 = .ok (.istore 4, 2) := by decide +kernel
theorem dX10_fewest_21 : decode cX10_fewest 21 = .ok (.iload 4, 2) := by decide +kernel
theorem dX10_fewest_23 : decode cX10_fewest 23 = .ok (.iconst 1, 1) := by decide +kernel
theorem dX10_fewest_24 : decode cX10_fewest 24 = .ok (.aload_n 0, 1) := by decide +kernel
theorem dX10_fewest_25 : decode cX10_fewest 25 = .ok (.getfield 87, 3) := by decide +kernel
theorem dX10_fewest_28 : decode cX10_fewest 28 = .ok (.ishl, 1) := by decide +kernel
theorem dX10_fewest_29 : decode cX10_fewest 29 = .ok (.if_icmp .ge 126, 3) := by decide +kernel
theorem dX10_fewest_32 : decode cX10_fewest 32 = .ok (.aload_n 0, 1) := by decide +kernel
theorem dX10_fewest_33 : decode cX10_fewest 33 = .ok (.invokevirtual 222, 3) := by decide +kernel
theorem dX10_fewest_36 : decode cX10_fewest 36 = .ok (.aload_n 0, 1) := by decide +kernel
theorem dX10_fewest_37 : decode cX10_fewest 37 = .ok (.iconst 0, 1) := by decide +kernel
theorem dX10_fewest_38 : decode cX10_fewest 38 = .ok (.putfield 181, 3) := by decide +kernel
theorem dX10_fewest_41 : decode cX10_fewest 41 = .ok (.iconst 0, 1) := by decide +kernel
theorem dX10_fewest_42 : decode cX10_fewest 42 = .ok (.istore 5, 2) := by decide +kernel
theorem dX10_fewest_44 : decode cX10_fewest 44 = .ok (.iload 5, 2) := by decide +kernel
theorem dX10_fewest_46 : decode cX10_fewest 46 = .ok (.aload_n 0, 1) := by decide +kernel
theorem dX10_fewest_47 : decode cX10_fewest 47 = .ok (.getfield 87, 3) := by decide +kernel
theorem dX10_fewest_50 : decode cX10_fewest 50 = .ok (.if_icmp .ge 41, 3) := by decide +kernel
theorem dX10_fewest_53 : decode cX10_fewest 53 = .ok (.iload 4, 2) := by decide +kernel
theorem dX10_fewest_55 : decode cX10_fewest 55 = .ok (.iload 5, 2) := by decide +kernel
theorem dX10_fewest_57 : decode cX10_fewest 57 = .ok (.ishr, 1) := by decide +kernel
theorem dX10_fewest_58 : decode cX10_fewest 58 = .ok (.iconst 1, 1) := by decide +kernel
theorem dX10_fewest_59 : decode cX10_fewest 59 = .ok (.iand, 1) := by decide +kernel
theorem dX10_fewest_60 : decode cX10_fewest 60 = .ok (.iconst 1, 1) := by decide +kernel
theorem dX10_fewest_61 : decode cX10_fewest 61 = .ok (.if_icmp .ne 24, 3) := by decide +kernel
theorem dX10_fewest_64 : decode cX10_fewest 64 = .ok (.aload_n 0, 1) := by decide +kernel
theorem dX10_fewest_65 : decode cX10_fewest 65 = .ok (.getfield 44, 3) := by decide +kernel
theorem dX10_fewest_68 : decode cX10_fewest 68 = .ok (.aload_n 0, 1) := by decide +kernel
theorem dX10_fewest_69 : decode cX10_fewest 69 = .ok (.getfield 181, 3) := by decide +kernel
theorem dX10_fewest_72 : decode cX10_fewest 72 = .ok (.iload 5, 2) := by decide +kernel
theorem dX10_fewest_74 : decode cX10_fewest 74 = .ok (.iastore, 1) := by decide +kernel
theorem dX10_fewest_75 : decode cX10_fewest 75 = .ok (.aload_n 0, 1) := by decide +kernel
theorem dX10_fewest_76 : decode cX10_fewest 76 = .ok (.dup, 1) := by decide +kernel
theorem dX10_fewest_77 : decode cX10_fewest 77 = .ok (.getfield 181, 3) := by decide +kernel
theorem dX10_fewest_80 : decode cX10_fewest 80 = .ok (.iconst 1, 1) := by decide +kernel
theorem dX10_fewest_81 : decode cX10_fewest 81 = .ok (.iadd, 1) := by decide +kernel
theorem dX10_fewest_82 : decode cX10_fewest 82 = .ok (.putfield 181, 3) := by decide +kernel
theorem dX10_fewest_85 : decode cX10_fewest 85 = .ok (.iinc 5 1, 3) := by decide +kernel
theorem dX10_fewest_88 : decode cX10_fewest 88 = .ok (.goto (-44), 3) := by decide +kernel
theorem dX10_fewest_91 : decode cX10_fewest 91 = .ok (.aload_n 0, 1) := by decide +kernel
theorem dX10_fewest_92 : decode cX10_fewest 92 = .ok (.getfield 181, 3) := by decide +kernel
theorem dX10_fewest_95 : decode cX10_fewest 95 = .ok (.istore 5, 2) := by decide +kernel
theorem dX10_fewest_97 : decode cX10_fewest 97 = .ok (.iload_n 2, 1) := by decide +kernel
theorem dX10_fewest_98 : decode cX10_fewest 98 = .ok (.bipush (-4), 2) := by decide +kernel
theorem dX10_fewest_100 : decode cX10_fewest 100 = .ok (.if_icmp .eq 9, 3) := by decide +kernel
theorem dX10_fewest_103 : decode cX10_fewest 103 = .ok (.iload 5, 2) := by decide +kernel
theorem dX10_fewest_105 : decode cX10_fewest 105 = .ok (.iload_n 2, 1) := by decide +kernel
theorem dX10_fewest_106 : decode cX10_fewest 106 = .ok (.if_icmp .ge 16, 3) := by decide +kernel
theorem dX10_fewest_109 : decode cX10_fewest 109 = .ok (.aload_n 0, 1) := by decide +kernel
theorem dX10_fewest_110 : decode cX10_fewest 110 = .ok (.invokevirtual 240, 3) := by decide +kernel
theorem dX10_fewest_113 : decode cX10_fewest 113 = .ok (.bipush (-4), 2) := by decide +kernel
theorem dX10_fewest_115 : decode cX10_fewest 115 = .ok (.if_icmp .eq 7, 3) := by decide +kernel
theorem dX10_fewest_118 : decode cX10_fewest 118 = .ok (.iconst 1, 1) := by decide +kernel
theorem dX10_fewest_119 : decode cX10_fewest 119 = .ok (.goto 4, 3) := by decide +kernel
theorem dX10_fewest_122 : decode cX10_fewest 122 = .ok (.iconst 0, 1) := by decide +kernel
theorem dX10_fewest_123 : decode cX10_fewest 123 = .ok (.istore 6, 2) := by decide +kernel
theorem dX10_fewest_125 : decode cX10_fewest 125 = .ok (.iload 6, 2) := by decide +kernel
theorem dX10_fewest_127 : decode cX10_fewest 127 = .ok (.ifCond .eq 8, 3) := by decide +kernel
theorem dX10_fewest_130 : decode cX10_fewest 130 = .ok (.iload 4, 2) := by decide +kernel
theorem dX10_fewest_132 : decode cX10_fewest 132 = .ok (.goto 4, 3) := by decide +kernel
theorem dX10_fewest_135 : decode cX10_fewest 135 = .ok (.iload_n 3, 1) := by decide +kernel
theorem dX10_fewest_136 : decode cX10_fewest 136 = .ok (.istore_n 3, 1) := by decide +kernel
theorem dX10_fewest_137 : decode cX10_fewest 137 = .ok (.iload 6, 2) := by decide +kernel
theorem dX10_fewest_139 : decode cX10_fewest 139 = .ok (.ifCond .eq 8, 3) := by decide +kernel
theorem dX10_fewest_142 : decode cX10_fewest 142 = .ok (.iload 5, 2) := by decide +kernel
theorem dX10_fewest_144 : decode cX10_fewest 144 = .ok (.goto 4, 3) := by decide +kernel
theorem dX10_fewest_147 : decode cX10_fewest 147 = .ok (.iload_n 2, 1) := by decide +kernel
theorem dX10_fewest_148 : decode cX10_fewest 148 = .ok (.istore_n 2, 1) := by decide +kernel
theorem dX10_fewest_149 : decode cX10_fewest 149 = .ok (.iinc 4 1, 3) := by decide +kernel
theorem dX10_fewest_152 : decode cX10_fewest 152 = .ok (.goto (-131), 3) := by decide +kernel
theorem dX10_fewest_155 : decode cX10_fewest 155 = .ok (.iload_n 1, 1) := by decide +kernel
theorem dX10_fewest_156 : decode cX10_fewest 156 = .ok (.ifCond .ne 7, 3) := by decide +kernel
theorem dX10_fewest_159 : decode cX10_fewest 159 = .ok (.iload_n 2, 1) := by decide +kernel
theorem dX10_fewest_160 : decode cX10_fewest 160 = .ok (.goto 4, 3) := by decide +kernel
theorem dX10_fewest_163 : decode cX10_fewest 163 = .ok (.iload_n 3, 1) := by decide +kernel
theorem dX10_fewest_164 : decode cX10_fewest 164 = .ok (.ireturn, 1) := by decide +kernel
theorem dX10_better_0 : decode cX10_better 0 = .ok (.iload_n 1, 1) := by decide +kernel
theorem dX10_better_1 : decode cX10_better 1 = .ok (.i2l, 1) := by decide +kernel
theorem dX10_better_2 : decode cX10_better 2 = .ok (.lconst 0, 1) := by decide +kernel
theorem dX10_better_3 : decode cX10_better 3 = .ok (.lconst 1, 1) := by decide +kernel
theorem dX10_better_4 : decode cX10_better 4 = .ok (.invokestatic 95, 3) := by decide +kernel
theorem dX10_better_7 : decode cX10_better 7 = .ok (.ifCond .ne 5, 3) := by decide +kernel
theorem dX10_better_10 : decode cX10_better 10 = .ok (.iconst (-1), 1) := by decide +kernel
theorem dX10_better_11 : decode cX10_better 11 = .ok (.ireturn, 1) := by decide +kernel
theorem dX10_better_12 : decode cX10_better 12 = .ok (.aload_n 0, 1) := by decide +kernel
theorem dX10_better_13 : decode cX10_better 13 = .ok (.invokevirtual 222, 3) := by decide +kernel
theorem dX10_better_16 : decode cX10_better 16 = .ok (.aload_n 0, 1) := by decide +kernel
theorem dX10_better_17 : decode cX10_better 17 = .ok (.invokevirtual 240, 3) := by decide +kernel
theorem dX10_better_20 : decode cX10_better 20 = .ok (.istore_n 2, 1) := by decide +kernel
theorem dX10_better_21 : decode cX10_better 21 = .ok (.bipush (-4), 2) := by decide +kernel
theorem dX10_better_23 : decode cX10_better 23 = .ok (.istore_n 3, 1) := by decide +kernel
theorem dX10_better_24 : decode cX10_better 24 = .ok (.iconst 0, 1) := by decide +kernel
theorem dX10_better_25 : decode cX10_better 25 = .ok (.istore 4, 2) := by decide +kernel
theorem dX10_better_27 : decode cX10_better 27 = .ok (.iload 4, 2) := by decide +kernel
theorem dX10_better_29 : decode cX10_better 29 = .ok (.aload_n 0, 1) := by decide +kernel
theorem dX10_better_30 : decode cX10_better 30 = .ok (.getfield 84, 3) := by decide +kernel
theorem dX10_better_33 : decode cX10_better 33 = .ok (.if_icmp .ge 112, 3) := by decide +kernel
theorem dX10_better_36 : decode cX10_better 36 = .ok (.iconst 1, 1) := by decide +kernel
theorem dX10_better_37 : decode cX10_better 37 = .ok (.istore 5, 2) := by decide +kernel
theorem dX10_better_39 : decode cX10_better 39 = .ok (.iload 5, 2) := by decide +kernel
theorem dX10_better_41 : decode cX10_better 41 = .ok (.bipush 9, 2) := by decide +kernel
theorem dX10_better_43 : decode cX10_better 43 = .ok (.if_icmp .gt 96, 3) := by decide +kernel
theorem dX10_better_46 : decode cX10_better 46 = .ok (.aload_n 0, 1) := by decide +kernel
theorem dX10_better_47 : decode cX10_better 47 = .ok (.invokevirtual 222, 3) := by decide +kernel
theorem dX10_better_50 : decode cX10_better 50 = .ok (.aload_n 0, 1) := by decide +kernel
theorem dX10_better_51 : decode cX10_better 51 = .ok (.getfield 23, 3) := by decide +kernel
theorem dX10_better_54 : decode cX10_better 54 = .ok (.iload 4, 2) := by decide +kernel
theorem dX10_better_56 : decode cX10_better 56 = .ok (.iaload, 1) := by decide +kernel
theorem dX10_better_57 : decode cX10_better 57 = .ok (.iload 5, 2) := by decide +kernel
theorem dX10_better_59 : decode cX10_better 59 = .ok (.if_icmp .eq 74, 3) := by decide +kernel
theorem dX10_better_62 : decode cX10_better 62 = .ok (.aload_n 0, 1) := by decide +kernel
theorem dX10_better_63 : decode cX10_better 63 = .ok (.getfield 23, 3) := by decide +kernel
theorem dX10_better_66 : decode cX10_better 66 = .ok (.iload 4, 2) := by decide +kernel
theorem dX10_better_68 : decode cX10_better 68 = .ok (.iload 5, 2) := by decide +kernel
theorem dX10_better_70 : decode cX10_better 70 = .ok (.iastore, 1) := by decide +kernel
theorem dX10_better_71 : decode cX10_better 71 = .ok (.aload_n 0, 1) := by decide +kernel
theorem dX10_better_72 : decode cX10_better 72 = .ok (.invokevirtual 240, 3) := by decide +kernel
theorem dX10_better_75 : decode cX10_better 75 = .ok (.istore 6, 2) := by decide +kernel
theorem dX10_better_77 : decode cX10_better 77 = .ok (.iload 6, 2) := by decide +kernel
theorem dX10_better_79 : decode cX10_better 79 = .ok (.bipush (-4), 2) := by decide +kernel
theorem dX10_better_81 : decode cX10_better 81 = .ok (.if_icmp .eq 19, 3) := by decide +kernel
theorem dX10_better_84 : decode cX10_better 84 = .ok (.iload_n 2, 1) := by decide +kernel
theorem dX10_better_85 : decode cX10_better 85 = .ok (.bipush (-4), 2) := by decide +kernel
theorem dX10_better_87 : decode cX10_better 87 = .ok (.if_icmp .eq 9, 3) := by decide +kernel
theorem dX10_better_90 : decode cX10_better 90 = .ok (.iload 6, 2) := by decide +kernel
theorem dX10_better_92 : decode cX10_better 92 = .ok (.iload_n 2, 1) := by decide +kernel
theorem dX10_better_93 : decode cX10_better 93 = .ok (.if_icmp .ge 7, 3) := by decide +kernel
theorem dX10_better_96 : decode cX10_better 96 = .ok (.iconst 1, 1) := by decide +kernel
theorem dX10_better_97 : decode cX10_better 97 = .ok (.goto 4, 3) := by decide +kernel
theorem dX10_better_100 : decode cX10_better 100 = .ok (.iconst 0, 1) := by decide +kernel
theorem dX10_better_101 : decode cX10_better 101 = .ok (.istore 7, 2) := by decide +kernel
theorem dX10_better_103 : decode cX10_better 103 = .ok (.iload 7, 2) := by decide +kernel
theorem dX10_better_105 : decode cX10_better 105 = .ok (.ifCond .eq 14, 3) := by decide +kernel
theorem dX10_better_108 : decode cX10_better 108 = .ok (.bipush 10, 2) := by decide +kernel
theorem dX10_better_110 : decode cX10_better 110 = .ok (.iload 4, 2) := by decide +kernel
theorem dX10_better_112 : decode cX10_better 112 = .ok (.imul, 1) := by decide +kernel
theorem dX10_better_113 : decode cX10_better 113 = .ok (.iload 5, 2) := by decide +kernel
theorem dX10_better_115 : decode cX10_better 115 = .ok (.iadd, 1) := by decide +kernel
theorem dX10_better_116 : decode cX10_better 116 = .ok (.goto 4, 3) := by decide +kernel
theorem dX10_better_119 : decode cX10_better 119 = .ok (.iload_n 3, 1) := by decide +kernel
theorem dX10_better_120 : decode cX10_better 120 = .ok (.istore_n 3, 1) := by decide +kernel
theorem dX10_better_121 : decode cX10_better 121 = .ok (.iload 7, 2) := by decide +kernel
theorem dX10_better_123 : decode cX10_better 123 = .ok (.ifCond .eq 8, 3) := by decide +kernel
theorem dX10_better_126 : decode cX10_better 126 = .ok (.iload 6, 2) := by decide +kernel
theorem dX10_better_128 : decode cX10_better 128 = .ok (.goto 4, 3) := by decide +kernel
theorem dX10_better_131 : decode cX10_better 131 = .ok (.iload_n 2, 1) := by decide +kernel
theorem dX10_better_132 : decode cX10_better 132 = .ok (.istore_n 2, 1) := by decide +kernel
theorem dX10_better_133 : decode cX10_better 133 = .ok (.iinc 5 1, 3) := by decide +kernel
theorem dX10_better_136 : decode cX10_better 136 = .ok (.goto (-97), 3) := by decide +kernel
theorem dX10_better_139 : decode cX10_better 139 = .ok (.iinc 4 1, 3) := by decide +kernel
theorem dX10_better_142 : decode cX10_better 142 = .ok (.goto (-115), 3) := by decide +kernel
theorem dX10_better_145 : decode cX10_better 145 = .ok (.iload_n 3, 1) := by decide +kernel
theorem dX10_better_146 : decode cX10_better 146 = .ok (.bipush (-4), 2) := by decide +kernel
theorem dX10_better_148 : decode cX10_better 148 = .ok (.if_icmp .ne 8, 3) := by decide +kernel
theorem dX10_better_151 : decode cX10_better 151 = .ok (.bipush (-4), 2) := by decide +kernel
theorem dX10_better_153 : decode cX10_better 153 = .ok (.goto 12, 3) := by decide +kernel
theorem dX10_better_156 : decode cX10_better 156 = .ok (.iload_n 1, 1) := by decide +kernel
theorem dX10_better_157 : decode cX10_better 157 = .ok (.ifCond .ne 7, 3) := by decide +kernel
theorem dX10_better_160 : decode cX10_better 160 = .ok (.iload_n 3, 1) := by decide +kernel
theorem dX10_better_161 : decode cX10_better 161 = .ok (.goto 4, 3) := by decide +kernel
theorem dX10_better_164 : decode cX10_better 164 = .ok (.iload_n 2, 1) := by decide +kernel
theorem dX10_better_165 : decode cX10_better 165 = .ok (.ireturn, 1) := by decide +kernel
theorem dX10_weeks_0 : decode cX10_weeks 0 = .ok (.iconst 0, 1) := by decide +kernel
theorem dX10_weeks_1 : decode cX10_weeks 1 = .ok (.istore_n 1, 1) := by decide +kernel
theorem dX10_weeks_2 : decode cX10_weeks 2 = .ok (.iconst 0, 1) := by decide +kernel
theorem dX10_weeks_3 : decode cX10_weeks 3 = .ok (.istore_n 2, 1) := by decide +kernel
theorem dX10_weeks_4 : decode cX10_weeks 4 = .ok (.iload_n 2, 1) := by decide +kernel
theorem dX10_weeks_5 : decode cX10_weeks 5 = .ok (.bipush 8, 2) := by decide +kernel
theorem dX10_weeks_7 : decode cX10_weeks 7 = .ok (.if_icmp .gt 115, 3) := by decide +kernel
theorem dX10_weeks_10 : decode cX10_weeks 10 = .ok (.aload_n 0, 1) := by decide +kernel
theorem dX10_weeks_11 : decode cX10_weeks 11 = .ok (.invokevirtual 222, 3) := by decide +kernel
theorem dX10_weeks_14 : decode cX10_weeks 14 = .ok (.iconst 0, 1) := by decide +kernel
theorem dX10_weeks_15 : decode cX10_weeks 15 = .ok (.istore_n 3, 1) := by decide +kernel
theorem dX10_weeks_16 : decode cX10_weeks 16 = .ok (.iload_n 3, 1) := by decide +kernel
theorem dX10_weeks_17 : decode cX10_weeks 17 = .ok (.aload_n 0, 1) := by decide +kernel
theorem dX10_weeks_18 : decode cX10_weeks 18 = .ok (.getfield 87, 3) := by decide +kernel
theorem dX10_weeks_21 : decode cX10_weeks 21 = .ok (.if_icmp .ge 73, 3) := by decide +kernel
theorem dX10_weeks_24 : decode cX10_weeks 24 = .ok (.aload_n 0, 1) := by decide +kernel
theorem dX10_weeks_25 : decode cX10_weeks 25 = .ok (.getfield 32, 3) := by decide +kernel
theorem dX10_weeks_28 : decode cX10_weeks 28 = .ok (.iload_n 3, 1) := by decide +kernel
theorem dX10_weeks_29 : decode cX10_weeks 29 = .ok (.aload_n 0, 1) := by decide +kernel
theorem dX10_weeks_30 : decode cX10_weeks 30 = .ok (.getfield 32, 3) := by decide +kernel
theorem dX10_weeks_33 : decode cX10_weeks 33 = .ok (.iload_n 3, 1) := by decide +kernel
theorem dX10_weeks_34 : decode cX10_weeks 34 = .ok (.iaload, 1) := by decide +kernel
theorem dX10_weeks_35 : decode cX10_weeks 35 = .ok (.iload_n 2, 1) := by decide +kernel
theorem dX10_weeks_36 : decode cX10_weeks 36 = .ok (.iadd, 1) := by decide +kernel
theorem dX10_weeks_37 : decode cX10_weeks 37 = .ok (.bipush 9, 2) := by decide +kernel
theorem dX10_weeks_39 : decode cX10_weeks 39 = .ok (.if_icmp .le 8, 3) := by decide +kernel
theorem dX10_weeks_42 : decode cX10_weeks 42 = .ok (.bipush 9, 2) := by decide +kernel
theorem dX10_weeks_44 : decode cX10_weeks 44 = .ok (.goto 11, 3) := by decide +kernel
theorem dX10_weeks_47 : decode cX10_weeks 47 = .ok (.aload_n 0, 1) := by decide +kernel
theorem dX10_weeks_48 : decode cX10_weeks 48 = .ok (.getfield 32, 3) := by decide +kernel
theorem dX10_weeks_51 : decode cX10_weeks 51 = .ok (.iload_n 3, 1) := by decide +kernel
theorem dX10_weeks_52 : decode cX10_weeks 52 = .ok (.iaload, 1) := by decide +kernel
theorem dX10_weeks_53 : decode cX10_weeks 53 = .ok (.iload_n 2, 1) := by decide +kernel
theorem dX10_weeks_54 : decode cX10_weeks 54 = .ok (.iadd, 1) := by decide +kernel
theorem dX10_weeks_55 : decode cX10_weeks 55 = .ok (.iastore, 1) := by decide +kernel
theorem dX10_weeks_56 : decode cX10_weeks 56 = .ok (.aload_n 0, 1) := by decide +kernel
theorem dX10_weeks_57 : decode cX10_weeks 57 = .ok (.getfield 35, 3) := by decide +kernel
theorem dX10_weeks_60 : decode cX10_weeks 60 = .ok (.iload_n 3, 1) := by decide +kernel
theorem dX10_weeks_61 : decode cX10_weeks 61 = .ok (.aload_n 0, 1) := by decide +kernel
theorem dX10_weeks_62 : decode cX10_weeks 62 = .ok (.getfield 35, 3) := by decide +kernel
theorem dX10_weeks_65 : decode cX10_weeks 65 = .ok (.iload_n 3, 1) := by decide +kernel
theorem dX10_weeks_66 : decode cX10_weeks 66 = .ok (.iaload, 1) := by decide +kernel
theorem dX10_weeks_67 : decode cX10_weeks 67 = .ok (.iload_n 2, 1) := by decide +kernel
theorem dX10_weeks_68 : decode cX10_weeks 68 = .ok (.iadd, 1) := by decide +kernel
theorem dX10_weeks_69 : decode cX10_weeks 69 = .ok (.bipush 9, 2) := by decide +kernel
theorem dX10_weeks_71 : decode cX10_weeks 71 = .ok (.if_icmp .le 8, 3) := by decide +kernel
theorem dX10_weeks_74 : decode cX10_weeks 74 = .ok (.bipush 9, 2) := by decide +kernel
theorem dX10_weeks_76 : decode cX10_weeks 76 = .ok (.goto 11, 3) := by decide +kernel
theorem dX10_weeks_79 : decode cX10_weeks 79 = .ok (.aload_n 0, 1) := by decide +kernel
theorem dX10_weeks_80 : decode cX10_weeks 80 = .ok (.getfield 35, 3) := by decide +kernel
theorem dX10_weeks_83 : decode cX10_weeks 83 = .ok (.iload_n 3, 1) := by decide +kernel
theorem dX10_weeks_84 : decode cX10_weeks 84 = .ok (.iaload, 1) := by decide +kernel
theorem dX10_weeks_85 : decode cX10_weeks 85 = .ok (.iload_n 2, 1) := by decide +kernel
theorem dX10_weeks_86 : decode cX10_weeks 86 = .ok (.iadd, 1) := by decide +kernel
theorem dX10_weeks_87 : decode cX10_weeks 87 = .ok (.iastore, 1) := by decide +kernel
theorem dX10_weeks_88 : decode cX10_weeks 88 = .ok (.iinc 3 1, 3) := by decide +kernel
theorem dX10_weeks_91 : decode cX10_weeks 91 = .ok (.goto (-75), 3) := by decide +kernel
theorem dX10_weeks_94 : decode cX10_weeks 94 = .ok (.iload_n 1, 1) := by decide +kernel
theorem dX10_weeks_95 : decode cX10_weeks 95 = .ok (.aload_n 0, 1) := by decide +kernel
theorem dX10_weeks_96 : decode cX10_weeks 96 = .ok (.invokevirtual 240, 3) := by decide +kernel
theorem dX10_weeks_99 : decode cX10_weeks 99 = .ok (.bipush (-4), 2) := by decide +kernel
theorem dX10_weeks_101 : decode cX10_weeks 101 = .ok (.if_icmp .eq 7, 3) := by decide +kernel
theorem dX10_weeks_104 : decode cX10_weeks 104 = .ok (.iconst 1, 1) := by decide +kernel
theorem dX10_weeks_105 : decode cX10_weeks 105 = .ok (.goto 4, 3) := by decide +kernel
theorem dX10_weeks_108 : decode cX10_weeks 108 = .ok (.iconst 0, 1) := by decide +kernel
theorem dX10_weeks_109 : decode cX10_weeks 109 = .ok (.invokestatic 158, 3) := by decide +kernel
theorem dX10_weeks_112 : decode cX10_weeks 112 = .ok (.iload_n 2, 1) := by decide +kernel
theorem dX10_weeks_113 : decode cX10_weeks 113 = .ok (.ishl, 1) := by decide +kernel
theorem dX10_weeks_114 : decode cX10_weeks 114 = .ok (.ior, 1) := by decide +kernel
theorem dX10_weeks_115 : decode cX10_weeks 115 = .ok (.istore_n 1, 1) := by decide +kernel
theorem dX10_weeks_116 : decode cX10_weeks 116 = .ok (.iinc 2 1, 3) := by decide +kernel
theorem dX10_weeks_119 : decode cX10_weeks 119 = .ok (.goto (-115), 3) := by decide +kernel
theorem dX10_weeks_122 : decode cX10_weeks 122 = .ok (.iload_n 1, 1) := by decide +kernel
theorem dX10_weeks_123 : decode cX10_weeks 123 = .ok (.ireturn, 1) := by decide +kernel
