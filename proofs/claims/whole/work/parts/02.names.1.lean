theorem dX0_init_0 : decode cX0_init 0 = .ok (.aload_n 0, 1) := by decide +kernel
theorem dX0_init_1 : decode cX0_init 1 = .ok (.invokespecial 3, 3) := by decide +kernel
theorem dX0_init_4 : decode cX0_init 4 = .ok (.aload_n 0, 1) := by decide +kernel
theorem dX0_init_5 : decode cX0_init 5 = .ok (.iconst 4, 1) := by decide +kernel
theorem dX0_init_6 : decode cX0_init 6 = .ok (.putfield 9, 3) := by decide +kernel
theorem dX0_init_9 : decode cX0_init 9 = .ok (.aload_n 0, 1) := by decide +kernel
theorem dX0_init_10 : decode cX0_init 10 = .ok (.bipush 8, 2) := by decide +kernel
theorem dX0_init_12 : decode cX0_init 12 = .ok (.newarray .int, 2) := by decide +kernel
theorem dX0_init_14 : decode cX0_init 14 = .ok (.putfield 15, 3) := by decide +kernel
theorem dX0_init_17 : decode cX0_init 17 = .ok (.aload_n 0, 1) := by decide +kernel
theorem dX0_init_18 : decode cX0_init 18 = .ok (.bipush 6, 2) := by decide +kernel
theorem dX0_init_20 : decode cX0_init 20 = .ok (.anewarray 19, 3) := by decide +kernel
theorem dX0_init_23 : decode cX0_init 23 = .ok (.putfield 21, 3) := by decide +kernel
theorem dX0_init_26 : decode cX0_init 26 = .ok (.aload_n 0, 1) := by decide +kernel
theorem dX0_init_27 : decode cX0_init 27 = .ok (.iconst 4, 1) := by decide +kernel
theorem dX0_init_28 : decode cX0_init 28 = .ok (.anewarray 25, 3) := by decide +kernel
theorem dX0_init_31 : decode cX0_init 31 = .ok (.putfield 27, 3) := by decide +kernel
theorem dX0_init_34 : decode cX0_init 34 = .ok (.aload_n 0, 1) := by decide +kernel
theorem dX0_init_35 : decode cX0_init 35 = .ok (.iconst 4, 1) := by decide +kernel
theorem dX0_init_36 : decode cX0_init 36 = .ok (.newarray .int, 2) := by decide +kernel
theorem dX0_init_38 : decode cX0_init 38 = .ok (.putfield 31, 3) := by decide +kernel
theorem dX0_init_41 : decode cX0_init 41 = .ok (.iconst 0, 1) := by decide +kernel
theorem dX0_init_42 : decode cX0_init 42 = .ok (.istore_n 1, 1) := by decide +kernel
theorem dX0_init_43 : decode cX0_init 43 = .ok (.iload_n 1, 1) := by decide +kernel
theorem dX0_init_44 : decode cX0_init 44 = .ok (.bipush 6, 2) := by decide +kernel
theorem dX0_init_46 : decode cX0_init 46 = .ok (.if_icmp .ge 22, 3) := by decide +kernel
theorem dX0_init_49 : decode cX0_init 49 = .ok (.aload_n 0, 1) := by decide +kernel
theorem dX0_init_50 : decode cX0_init 50 = .ok (.getfield 21, 3) := by decide +kernel
theorem dX0_init_53 : decode cX0_init 53 = .ok (.iload_n 1, 1) := by decide +kernel
theorem dX0_init_54 : decode cX0_init 54 = .ok (.new 19, 3) := by decide +kernel
theorem dX0_init_57 : decode cX0_init 57 = .ok (.dup, 1) := by decide +kernel
theorem dX0_init_58 : decode cX0_init 58 = .ok (.invokespecial 34, 3) := by decide +kernel
theorem dX0_init_61 : decode cX0_init 61 = .ok (.aastore, 1) := by decide +kernel
theorem dX0_init_62 : decode cX0_init 62 = .ok (.iinc 1 1, 3) := by decide +kernel
theorem dX0_init_65 : decode cX0_init 65 = .ok (.goto (-22), 3) := by decide +kernel
theorem dX0_init_68 : decode cX0_init 68 = .ok (.iconst 0, 1) := by decide +kernel
theorem dX0_init_69 : decode cX0_init 69 = .ok (.istore_n 1, 1) := by decide +kernel
theorem dX0_init_70 : decode cX0_init 70 = .ok (.iload_n 1, 1) := by decide +kernel
theorem dX0_init_71 : decode cX0_init 71 = .ok (.iconst 4, 1) := by decide +kernel
theorem dX0_init_72 : decode cX0_init 72 = .ok (.if_icmp .ge 22, 3) := by decide +kernel
theorem dX0_init_75 : decode cX0_init 75 = .ok (.aload_n 0, 1) := by decide +kernel
theorem dX0_init_76 : decode cX0_init 76 = .ok (.getfield 27, 3) := by decide +kernel
theorem dX0_init_79 : decode cX0_init 79 = .ok (.iload_n 1, 1) := by decide +kernel
theorem dX0_init_80 : decode cX0_init 80 = .ok (.new 25, 3) := by decide +kernel
theorem dX0_init_83 : decode cX0_init 83 = .ok (.dup, 1) := by decide +kernel
theorem dX0_init_84 : decode cX0_init 84 = .ok (.invokespecial 35, 3) := by decide +kernel
theorem dX0_init_87 : decode cX0_init 87 = .ok (.aastore, 1) := by decide +kernel
theorem dX0_init_88 : decode cX0_init 88 = .ok (.iinc 1 1, 3) := by decide +kernel
theorem dX0_init_91 : decode cX0_init 91 = .ok (.goto (-21), 3) := by decide +kernel
theorem dX0_init_94 : decode cX0_init 94 = .ok (.return_, 1) := by decide +kernel
theorem dX0_clear_0 : decode cX0_clear 0 = .ok (.aload_n 0, 1) := by decide +kernel
theorem dX0_clear_1 : decode cX0_clear 1 = .ok (.iconst 4, 1) := by decide +kernel
theorem dX0_clear_2 : decode cX0_clear 2 = .ok (.putfield 9, 3) := by decide +kernel
theorem dX0_clear_5 : decode cX0_clear 5 = .ok (.aload_n 0, 1) := by decide +kernel
theorem dX0_clear_6 : decode cX0_clear 6 = .ok (.iconst 0, 1) := by decide +kernel
theorem dX0_clear_7 : decode cX0_clear 7 = .ok (.putfield 36, 3) := by decide +kernel
theorem dX0_clear_10 : decode cX0_clear 10 = .ok (.aload_n 0, 1) := by decide +kernel
theorem dX0_clear_11 : decode cX0_clear 11 = .ok (.iconst 0, 1) := by decide +kernel
theorem dX0_clear_12 : decode cX0_clear 12 = .ok (.putfield 39, 3) := by decide +kernel
theorem dX0_clear_15 : decode cX0_clear 15 = .ok (.aload_n 0, 1) := by decide +kernel
theorem dX0_clear_16 : decode cX0_clear 16 = .ok (.iconst 0, 1) := by decide +kernel
theorem dX0_clear_17 : decode cX0_clear 17 = .ok (.putfield 42, 3) := by decide +kernel
theorem dX0_clear_20 : decode cX0_clear 20 = .ok (.aload_n 0, 1) := by decide +kernel
theorem dX0_clear_21 : decode cX0_clear 21 = .ok (.iconst 0, 1) := by decide +kernel
theorem dX0_clear_22 : decode cX0_clear 22 = .ok (.putfield 45, 3) := by decide +kernel
theorem dX0_clear_25 : decode cX0_clear 25 = .ok (.aload_n 0, 1) := by decide +kernel
theorem dX0_clear_26 : decode cX0_clear 26 = .ok (.iconst 0, 1) := by decide +kernel
theorem dX0_clear_27 : decode cX0_clear 27 = .ok (.putfield 48, 3) := by decide +kernel
theorem dX0_clear_30 : decode cX0_clear 30 = .ok (.aload_n 0, 1) := by decide +kernel
theorem dX0_clear_31 : decode cX0_clear 31 = .ok (.iconst 0, 1) := by decide +kernel
theorem dX0_clear_32 : decode cX0_clear 32 = .ok (.putfield 51, 3) := by decide +kernel
theorem dX0_clear_35 : decode cX0_clear 35 = .ok (.iconst 0, 1) := by decide +kernel
theorem dX0_clear_36 : decode cX0_clear 36 = .ok (.istore_n 1, 1) := by decide +kernel
theorem dX0_clear_37 : decode cX0_clear 37 = .ok (.iload_n 1, 1) := by decide +kernel
theorem dX0_clear_38 : decode cX0_clear 38 = .ok (.bipush 8, 2) := by decide +kernel
theorem dX0_clear_40 : decode cX0_clear 40 = .ok (.if_icmp .ge 16, 3) := by decide +kernel
theorem dX0_clear_43 : decode cX0_clear 43 = .ok (.aload_n 0, 1) := by decide +kernel
theorem dX0_clear_44 : decode cX0_clear 44 = .ok (.getfield 15, 3) := by decide +kernel
theorem dX0_clear_47 : decode cX0_clear 47 = .ok (.iload_n 1, 1) := by decide +kernel
theorem dX0_clear_48 : decode cX0_clear 48 = .ok (.iconst 0, 1) := by decide +kernel
theorem dX0_clear_49 : decode cX0_clear 49 = .ok (.iastore, 1) := by decide +kernel
theorem dX0_clear_50 : decode cX0_clear 50 = .ok (.iinc 1 1, 3) := by decide +kernel
theorem dX0_clear_53 : decode cX0_clear 53 = .ok (.goto (-16), 3) := by decide +kernel
theorem dX0_clear_56 : decode cX0_clear 56 = .ok (.return_, 1) := by decide +kernel
theorem dX0_copyFrom_0 : decode cX0_copyFrom 0 = .ok (.aload_n 0, 1) := by decide +kernel
theorem dX0_copyFrom_1 : decode cX0_copyFrom 1 = .ok (.aload_n 1, 1) := by decide +kernel
theorem dX0_copyFrom_2 : decode cX0_copyFrom 2 = .ok (.getfield 9, 3) := by decide +kernel
theorem dX0_copyFrom_5 : decode cX0_copyFrom 5 = .ok (.putfield 9, 3) := by decide +kernel
theorem dX0_copyFrom_8 : decode cX0_copyFrom 8 = .ok (.aload_n 0, 1) := by decide +kernel
theorem dX0_copyFrom_9 : decode cX0_copyFrom 9 = .ok (.aload_n 1, 1) := by decide +kernel
theorem dX0_copyFrom_10 : decode cX0_copyFrom 10 = .ok (.getfield 36, 3) := by decide +kernel
theorem dX0_copyFrom_13 : decode cX0_copyFrom 13 = .ok (.putfield 36, 3) := by decide +kernel
theorem dX0_copyFrom_16 : decode cX0_copyFrom 16 = .ok (.aload_n 0, 1) := by decide +kernel
theorem dX0_copyFrom_17 : decode cX0_copyFrom 17 = .ok (.aload_n 1, 1) := by decide +kernel
theorem dX0_copyFrom_18 : decode cX0_copyFrom 18 = .ok (.getfield 39, 3) := by decide +kernel
theorem dX0_copyFrom_21 : decode cX0_copyFrom 21 = .ok (.putfield 39, 3) := by decide +kernel
theorem dX0_copyFrom_24 : decode cX0_copyFrom 24 = .ok (.aload_n 0, 1) := by decide +kernel
theorem dX0_copyFrom_25 : decode cX0_copyFrom 25 = .ok (.aload_n 1, 1) := by decide +kernel
theorem dX0_copyFrom_26 : decode cX0_copyFrom 26 = .ok (.getfield 42, 3) := by decide +kernel
theorem dX0_copyFrom_29 : decode cX0_copyFrom 29 = .ok (.putfield 42, 3) := by decide +kernel
theorem dX0_copyFrom_32 : decode cX0_copyFrom 32 = .ok (.aload_n 0, 1) := by decide +kernel
theorem dX0_copyFrom_33 : decode cX0_copyFrom 33 = .ok (.aload_n 1, 1) := by decide +kernel
theorem dX0_copyFrom_34 : decode cX0_copyFrom 34 = .ok (.getfield 45, 3) := by decide +kernel
theorem dX0_copyFrom_37 : decode cX0_copyFrom 37 = .ok (.putfield 45, 3) := by decide +kernel
theorem dX0_copyFrom_40 : decode cX0_copyFrom 40 = .ok (.aload_n 0, 1) := by decide +kernel
theorem dX0_copyFrom_41 : decode cX0_copyFrom 41 = .ok (.aload_n 1, 1) := by decide +kernel
theorem dX0_copyFrom_42 : decode cX0_copyFrom 42 = .ok (.getfield 48, 3) := by decide +kernel
theorem dX0_copyFrom_45 : decode cX0_copyFrom 45 = .ok (.putfield 48, 3) := by decide +kernel
theorem dX0_copyFrom_48 : decode cX0_copyFrom 48 = .ok (.aload_n 0, 1) := by decide +kernel
theorem dX0_copyFrom_49 : decode cX0_copyFrom 49 = .ok (.aload_n 1, 1) := by decide +kernel
theorem dX0_copyFrom_50 : decode cX0_copyFrom 50 = .ok (.getfield 51, 3) := by decide +kernel
theorem dX0_copyFrom_53 : decode cX0_copyFrom 53 = .ok (.putfield 51, 3) := by decide +kernel
theorem dX0_copyFrom_56 : decode cX0_copyFrom 56 = .ok (.iconst 0, 1) := by decide +kernel
theorem dX0_copyFrom_57 : decode cX0_copyFrom 57 = .ok (.istore_n 2, 1) := by decide +kernel
theorem dX0_copyFrom_58 : decode cX0_copyFrom 58 = .ok (.iload_n 2, 1) := by decide +kernel
theorem dX0_copyFrom_59 : decode cX0_copyFrom 59 = .ok (.bipush 8, 2) := by decide +kernel
theorem dX0_copyFrom_61 : decode cX0_copyFrom 61 = .ok (.if_icmp .ge 21, 3) := by decide +kernel
theorem dX0_copyFrom_64 : decode cX0_copyFrom 64 = .ok (.aload_n 0, 1) := by decide +kernel
theorem dX0_copyFrom_65 : decode cX0_copyFrom 65 = .ok (.getfield 15, 3) := by decide +kernel
theorem dX0_copyFrom_68 : decode cX0_copyFrom 68 = .ok (.iload_n 2, 1) := by decide +kernel
theorem dX0_copyFrom_69 : decode cX0_copyFrom 69 = .ok (.aload_n 1, 1) := by decide +kernel
theorem dX0_copyFrom_70 : decode cX0_copyFrom 70 = .ok (.getfield 15, 3) := by decide +kernel
theorem dX0_copyFrom_73 : decode cX0_copyFrom 73 = .ok (.iload_n 2, 1) := by decide +kernel
theorem dX0_copyFrom_74 : decode cX0_copyFrom 74 = .ok (.iaload, 1) := by decide +kernel
theorem dX0_copyFrom_75 : decode cX0_copyFrom 75 = .ok (.iastore, 1) := by decide +kernel
theorem dX0_copyFrom_76 : decode cX0_copyFrom 76 = .ok (.iinc 2 1, 3) := by decide +kernel
theorem dX0_copyFrom_79 : decode cX0_copyFrom 79 = .ok (.goto (-21), 3) := by decide +kernel
theorem dX0_copyFrom_82 : decode cX0_copyFrom 82 = .ok (.iconst 0, 1) := by decide +kernel
theorem dX0_copyFrom_83 : decode cX0_copyFrom 83 = .ok (.istore_n 2, 1) := by decide +kernel
theorem dX0_copyFrom_84 : decode cX0_copyFrom 84 = .ok (.iload_n 2, 1) := by decide +kernel
theorem dX0_copyFrom_85 : decode cX0_copyFrom 85 = .ok (.aload_n 0, 1) := by decide +kernel
theorem dX0_copyFrom_86 : decode cX0_copyFrom 86 = .ok (.getfield 36, 3) := by decide +kernel
theorem dX0_copyFrom_89 : decode cX0_copyFrom 89 = .ok (.if_icmp .ge 24, 3) := by decide +kernel
theorem dX0_copyFrom_92 : decode cX0_copyFrom 92 = .ok (.aload_n 0, 1) := by decide +kernel
theorem dX0_copyFrom_93 : decode cX0_copyFrom 93 = .ok (.getfield 21, 3) := by decide +kernel
theorem dX0_copyFrom_96 : decode cX0_copyFrom 96 = .ok (.iload_n 2, 1) := by decide +kernel
theorem dX0_copyFrom_97 : decode cX0_copyFrom 97 = .ok (.aaload, 1) := by decide +kernel
theorem dX0_copyFrom_98 : decode cX0_copyFrom 98 = .ok (.aload_n 1, 1) := by decide +kernel
theorem dX0_copyFrom_99 : decode cX0_copyFrom 99 = .ok (.getfield 21, 3) := by decide +kernel
theorem dX0_copyFrom_102 : decode cX0_copyFrom 102 = .ok (.iload_n 2, 1) := by decide +kernel
theorem dX0_copyFrom_103 : decode cX0_copyFrom 103 = .ok (.aaload, 1) := by decide +kernel
theorem dX0_copyFrom_104 : decode cX0_copyFrom 104 = .ok (.invokevirtual 54, 3) := by decide +kernel
theorem dX0_copyFrom_107 : decode cX0_copyFrom 107 = .ok (.iinc 2 1, 3) := by decide +kernel
theorem dX0_copyFrom_110 : decode cX0_copyFrom 110 = .ok (.goto (-26), 3) := by decide +kernel
theorem dX0_copyFrom_113 : decode cX0_copyFrom 113 = .ok (.iconst 0, 1) := by decide +kernel
theorem dX0_copyFrom_114 : decode cX0_copyFrom 114 = .ok (.istore_n 2, 1) := by decide +kernel
theorem dX0_copyFrom_115 : decode cX0_copyFrom 115 = .ok (.iload_n 2, 1) := by decide +kernel
theorem dX0_copyFrom_116 : decode cX0_copyFrom 116 = .ok (.aload_n 0, 1) := by decide +kernel
theorem dX0_copyFrom_117 : decode cX0_copyFrom 117 = .ok (.getfield 39, 3) := by decide +kernel
theorem dX0_copyFrom_120 : decode cX0_copyFrom 120 = .ok (.if_icmp .ge 36, 3) := by decide +kernel
theorem dX0_copyFrom_123 : decode cX0_copyFrom 123 = .ok (.aload_n 0, 1) := by decide +kernel
theorem dX0_copyFrom_124 : decode cX0_copyFrom 124 = .ok (.getfield 27, 3) := by decide +kernel
theorem dX0_copyFrom_127 : decode cX0_copyFrom 127 = .ok (.iload_n 2, 1) := by decide +kernel
theorem dX0_copyFrom_128 : decode cX0_copyFrom 128 = .ok (.aaload, 1) := by decide +kernel
theorem dX0_copyFrom_129 : decode cX0_copyFrom 129 = .ok (.aload_n 1, 1) := by decide +kernel
theorem dX0_copyFrom_130 : decode cX0_copyFrom 130 = .ok (.getfield 27, 3) := by decide +kernel
theorem dX0_copyFrom_133 : decode cX0_copyFrom 133 = .ok (.iload_n 2, 1) := by decide +kernel
theorem dX0_copyFrom_134 : decode cX0_copyFrom 134 = .ok (.aaload, 1) := by decide +kernel
theorem dX0_copyFrom_135 : decode cX0_copyFrom 135 = .ok (.invokevirtual 58, 3) := by decide +kernel
theorem dX0_copyFrom_138 : decode cX0_copyFrom 138 = .ok (.aload_n 0, 1) := by decide +kernel
theorem dX0_copyFrom_139 : decode cX0_copyFrom 139 = .ok (.getfield 31, 3) := by decide +kernel
theorem dX0_copyFrom_142 : decode cX0_copyFrom 142 = .ok (.iload_n 2, 1) := by decide +kernel
theorem dX0_copyFrom_143 : decode cX0_copyFrom 143 = .ok (.aload_n 1, 1) := by decide +kernel
theorem dX0_copyFrom_144 : decode cX0_copyFrom 144 = .ok (.getfield 31, 3) := by decide +kernel
theorem dX0_copyFrom_147 : decode cX0_copyFrom 147 = .ok (.iload_n 2, 1) := by decide +kernel
theorem dX0_copyFrom_148 : decode cX0_copyFrom 148 = .ok (.iaload, 1) := by decide +kernel
theorem dX0_copyFrom_149 : decode cX0_copyFrom 149 = .ok (.iastore, 1) := by decide +kernel
theorem dX0_copyFrom_150 : decode cX0_copyFrom 150 = .ok (.iinc 2 1, 3) := by decide +kernel
theorem dX0_copyFrom_153 : decode cX0_copyFrom 153 = .ok (.goto (-38), 3) := by decide +kernel
theorem dX0_copyFrom_156 : decode cX0_copyFrom 156 = .ok (.return_, 1) := by decide +kernel
theorem dX0_addCoin_0 : decode cX0_addCoin 0 = .ok (.aload_n 0, 1) := by decide +kernel
theorem dX0_addCoin_1 : decode cX0_addCoin 1 = .ok (.getfield 36, 3) := by decide +kernel
theorem dX0_addCoin_4 : decode cX0_addCoin 4 = .ok (.bipush 6, 2) := by decide +kernel
theorem dX0_addCoin_6 : decode cX0_addCoin 6 = .ok (.if_icmp .ge 38, 3) := by decide +kernel
theorem dX0_addCoin_9 : decode cX0_addCoin 9 = .ok (.aload_n 0, 1) := by decide +kernel
theorem dX0_addCoin_10 : decode cX0_addCoin 10 = .ok (.getfield 21, 3) := by decide +kernel
theorem dX0_addCoin_13 : decode cX0_addCoin 13 = .ok (.aload_n 0, 1) := by decide +kernel
theorem dX0_addCoin_14 : decode cX0_addCoin 14 = .ok (.getfield 36, 3) := by decide +kernel
theorem dX0_addCoin_17 : decode cX0_addCoin 17 = .ok (.aaload, 1) := by decide +kernel
theorem dX0_addCoin_18 : decode cX0_addCoin 18 = .ok (.astore_n 3, 1) := by decide +kernel
theorem dX0_addCoin_19 : decode cX0_addCoin 19 = .ok (.aload_n 3, 1) := by decide +kernel
theorem dX0_addCoin_20 : decode cX0_addCoin 20 = .ok (.iload_n 1, 1) := by decide +kernel
theorem dX0_addCoin_21 : decode cX0_addCoin 21 = .ok (.putfield 61, 3) := by decide +kernel
theorem dX0_addCoin_24 : decode cX0_addCoin 24 = .ok (.aload_n 3, 1) := by decide +kernel
theorem dX0_addCoin_25 : decode cX0_addCoin 25 = .ok (.iconst 0, 1) := by decide +kernel
theorem dX0_addCoin_26 : decode cX0_addCoin 26 = .ok (.putfield 64, 3) := by decide +kernel
theorem dX0_addCoin_29 : decode cX0_addCoin 29 = .ok (.aload_n 3, 1) := by decide +kernel
theorem dX0_addCoin_30 : decode cX0_addCoin 30 = .ok (.iload_n 2, 1) := by decide +kernel
theorem dX0_addCoin_31 : decode cX0_addCoin 31 = .ok (.putfield 68, 3) := by decide +kernel
theorem dX0_addCoin_34 : decode cX0_addCoin 34 = .ok (.aload_n 0, 1) := by decide +kernel
theorem dX0_addCoin_35 : decode cX0_addCoin 35 = .ok (.dup, 1) := by decide +kernel
theorem dX0_addCoin_36 : decode cX0_addCoin 36 = .ok (.getfield 36, 3) := by decide +kernel
theorem dX0_addCoin_39 : decode cX0_addCoin 39 = .ok (.iconst 1, 1) := by decide +kernel
theorem dX0_addCoin_40 : decode cX0_addCoin 40 = .ok (.iadd, 1) := by decide +kernel
theorem dX0_addCoin_41 : decode cX0_addCoin 41 = .ok (.putfield 36, 3) := by decide +kernel
theorem dX0_addCoin_44 : decode cX0_addCoin 44 = .ok (.return_, 1) := by decide +kernel
theorem dX0_addCrab_0 : decode cX0_addCrab 0 = .ok (.aload_n 0, 1) := by decide +kernel
theorem dX0_addCrab_1 : decode cX0_addCrab 1 = .ok (.getfield 39, 3) := by decide +kernel
theorem dX0_addCrab_4 : decode cX0_addCrab 4 = .ok (.iconst 4, 1) := by decide +kernel
theorem dX0_addCrab_5 : decode cX0_addCrab 5 = .ok (.if_icmp .ge 76, 3) := by decide +kernel
theorem dX0_addCrab_8 : decode cX0_addCrab 8 = .ok (.aload_n 0, 1) := by decide +kernel
theorem dX0_addCrab_9 : decode cX0_addCrab 9 = .ok (.getfield 27, 3) := by decide +kernel
theorem dX0_addCrab_12 : decode cX0_addCrab 12 = .ok (.aload_n 0, 1) := by decide +kernel
theorem dX0_addCrab_13 : decode cX0_addCrab 13 = .ok (.getfield 39, 3) := by decide +kernel
theorem dX0_addCrab_16 : decode cX0_addCrab 16 = .ok (.aaload, 1) := by decide +kernel
theorem dX0_addCrab_17 : decode cX0_addCrab 17 = .ok (.astore 5, 2) := by decide +kernel
theorem dX0_addCrab_19 : decode cX0_addCrab 19 = .ok (.aload 5, 2) := by decide +kernel
theorem dX0_addCrab_21 : decode cX0_addCrab 21 = .ok (.iload_n 1, 1) := by decide +kernel
theorem dX0_addCrab_22 : decode cX0_addCrab 22 = .ok (.putfield 71, 3) := by decide +kernel
theorem dX0_addCrab_25 : decode cX0_addCrab 25 = .ok (.aload 5, 2) := by decide +kernel
theorem dX0_addCrab_27 : decode cX0_addCrab 27 = .ok (.iload_n 2, 1) := by decide +kernel
theorem dX0_addCrab_28 : decode cX0_addCrab 28 = .ok (.putfield 74, 3) := by decide +kernel
theorem dX0_addCrab_31 : decode cX0_addCrab 31 = .ok (.aload 5, 2) := by decide +kernel
theorem dX0_addCrab_33 : decode cX0_addCrab 33 = .ok (.iload_n 3, 1) := by decide +kernel
theorem dX0_addCrab_34 : decode cX0_addCrab 34 = .ok (.putfield 77, 3) := by decide +kernel
theorem dX0_addCrab_37 : decode cX0_addCrab 37 = .ok (.aload 5, 2) := by decide +kernel
theorem dX0_addCrab_39 : decode cX0_addCrab 39 = .ok (.iload 4, 2) := by decide +kernel
theorem dX0_addCrab_41 : decode cX0_addCrab 41 = .ok (.putfield 80, 3) := by decide +kernel
theorem dX0_addCrab_44 : decode cX0_addCrab 44 = .ok (.aload 5, 2) := by decide +kernel
theorem dX0_addCrab_46 : decode cX0_addCrab 46 = .ok (.iconst (-1), 1) := by decide +kernel
theorem dX0_addCrab_47 : decode cX0_addCrab 47 = .ok (.putfield 83, 3) := by decide +kernel
theorem dX0_addCrab_50 : decode cX0_addCrab 50 = .ok (.aload_n 0, 1) := by decide +kernel
theorem dX0_addCrab_51 : decode cX0_addCrab 51 = .ok (.getfield 31, 3) := by decide +kernel
theorem dX0_addCrab_54 : decode cX0_addCrab 54 = .ok (.aload_n 0, 1) := by decide +kernel
theorem dX0_addCrab_55 : decode cX0_addCrab 55 = .ok (.getfield 39, 3) := by decide +kernel
theorem dX0_addCrab_58 : decode cX0_addCrab 58 = .ok (.aload_n 0, 1) := by decide +kernel
theorem dX0_addCrab_59 : decode cX0_addCrab 59 = .ok (.getfield 39, 3) := by decide +kernel
theorem dX0_addCrab_62 : decode cX0_addCrab 62 = .ok (.iastore, 1) := by decide +kernel
theorem dX0_addCrab_63 : decode cX0_addCrab 63 = .ok (.aload_n 0, 1) := by decide +kernel
theorem dX0_addCrab_64 : decode cX0_addCrab 64 = .ok (.dup, 1) := by decide +kernel
theorem dX0_addCrab_65 : decode cX0_addCrab 65 = .ok (.getfield 39, 3) := by decide +kernel
theorem dX0_addCrab_68 : decode cX0_addCrab 68 = .ok (.iconst 1, 1) := by decide +kernel
theorem dX0_addCrab_69 : decode cX0_addCrab 69 = .ok (.iadd, 1) := by decide +kernel
theorem dX0_addCrab_70 : decode cX0_addCrab 70 = .ok (.putfield 39, 3) := by decide +kernel
theorem dX0_addCrab_73 : decode cX0_addCrab 73 = .ok (.aload_n 0, 1) := by decide +kernel
theorem dX0_addCrab_74 : decode cX0_addCrab 74 = .ok (.aload_n 0, 1) := by decide +kernel
theorem dX0_addCrab_75 : decode cX0_addCrab 75 = .ok (.getfield 39, 3) := by decide +kernel
theorem dX0_addCrab_78 : decode cX0_addCrab 78 = .ok (.putfield 42, 3) := by decide +kernel
theorem dX0_addCrab_81 : decode cX0_addCrab 81 = .ok (.return_, 1) := by decide +kernel
theorem dX0_sendAwayAllBut_0 : decode cX0_sendAwayAllBut 0 = .ok (.aload_n 0, 1) := by decide +kernel
theorem dX0_sendAwayAllBut_1 : decode cX0_sendAwayAllBut 1 = .ok (.iconst 0, 1) := by decide +kernel
theorem dX0_sendAwayAllBut_2 : decode cX0_sendAwayAllBut 2 = .ok (.putfield 42, 3) := by decide +kernel
theorem dX0_sendAwayAllBut_5 : decode cX0_sendAwayAllBut 5 = .ok (.iconst 0, 1) := by decide +kernel
theorem dX0_sendAwayAllBut_6 : decode cX0_sendAwayAllBut 6 = .ok (.istore_n 2, 1) := by decide +kernel
theorem dX0_sendAwayAllBut_7 : decode cX0_sendAwayAllBut 7 = .ok (.iload_n 2, 1) := by decide +kernel
theorem dX0_sendAwayAllBut_8 : decode cX0_sendAwayAllBut 8 = .ok (.aload_n 0, 1) := by decide +kernel
theorem dX0_sendAwayAllBut_9 : decode cX0_sendAwayAllBut 9 = .ok (.getfield 39, 3) := by decide +kernel
theorem dX0_sendAwayAllBut_12 : decode cX0_sendAwayAllBut 12 = .ok (.if_icmp .ge 38, 3) := by decide +kernel
theorem dX0_sendAwayAllBut_15 : decode cX0_sendAwayAllBut 15 = .ok (.iload_n 1, 1) := by decide +kernel
theorem dX0_sendAwayAllBut_16 : decode cX0_sendAwayAllBut 16 = .ok (.iload_n 2, 1) := by decide +kernel
theorem dX0_sendAwayAllBut_17 : decode cX0_sendAwayAllBut 17 = .ok (.ishr, 1) := by decide +kernel
theorem dX0_sendAwayAllBut_18 : decode cX0_sendAwayAllBut 18 = .ok (.iconst 1, 1) := by decide +kernel
theorem dX0_sendAwayAllBut_19 : decode cX0_sendAwayAllBut 19 = .ok (.iand, 1) := by decide +kernel
theorem dX0_sendAwayAllBut_20 : decode cX0_sendAwayAllBut 20 = .ok (.iconst 1, 1) := by decide +kernel
theorem dX0_sendAwayAllBut_21 : decode cX0_sendAwayAllBut 21 = .ok (.if_icmp .ne 23, 3) := by decide +kernel
theorem dX0_sendAwayAllBut_24 : decode cX0_sendAwayAllBut 24 = .ok (.aload_n 0, 1) := by decide +kernel
theorem dX0_sendAwayAllBut_25 : decode cX0_sendAwayAllBut 25 = .ok (.getfield 31, 3) := by decide +kernel
theorem dX0_sendAwayAllBut_28 : decode cX0_sendAwayAllBut 28 = .ok (.aload_n 0, 1) := by decide +kernel
theorem dX0_sendAwayAllBut_29 : decode cX0_sendAwayAllBut 29 = .ok (.getfield 42, 3) := by decide +kernel
theorem dX0_sendAwayAllBut_32 : decode cX0_sendAwayAllBut 32 = .ok (.iload_n 2, 1) := by decide +kernel
theorem dX0_sendAwayAllBut_33 : decode cX0_sendAwayAllBut 33 = .ok (.iastore, 1) := by decide +kernel
theorem dX0_sendAwayAllBut_34 : decode cX0_sendAwayAllBut 34 = .ok (.aload_n 0, 1) := by decide +kernel
theorem dX0_sendAwayAllBut_35 : decode cX0_sendAwayAllBut 35 = .ok (.dup, 1) := by decide +kernel
theorem dX0_sendAwayAllBut_36 : decode cX0_sendAwayAllBut 36 = .ok (.getfield 42, 3) := by decide +kernel
theorem dX0_sendAwayAllBut_39 : decode cX0_sendAwayAllBut 39 = .ok (.iconst 1, 1) := by decide +kernel
theorem dX0_sendAwayAllBut_40 : decode cX0_sendAwayAllBut 40 = .ok (.iadd, 1) := by decide +kernel
theorem dX0_sendAwayAllBut_41 : decode cX0_sendAwayAllBut 41 = .ok (.putfield 42, 3) := by decide +kernel
theorem dX0_sendAwayAllBut_44 : decode cX0_sendAwayAllBut 44 = .ok (.iinc 2 1, 3) := by decide +kernel
theorem dX0_sendAwayAllBut_47 : decode cX0_sendAwayAllBut 47 = .ok (.goto (-40), 3) := by decide +kernel
theorem dX0_sendAwayAllBut_50 : decode cX0_sendAwayAllBut 50 = .ok (.return_, 1) := by decide +kernel
theorem dX0_hasItsPlaces_0 : decode cX0_hasItsPlaces 0 = .ok (.aload_n 0, 1) := by decide +kernel
theorem dX0_hasItsPlaces_1 : decode cX0_hasItsPlaces 1 = .ok (.getfield 9, 3) := by decide +kernel
theorem dX0_hasItsPlaces_4 : decode cX0_hasItsPlaces 4 = .ok (.istore_n 1, 1) := by decide +kernel
theorem dX0_hasItsPlaces_5 : decode cX0_hasItsPlaces 5 = .ok (.iload_n 1, 1) := by decide +kernel
theorem dX0_hasItsPlaces_6 : decode cX0_hasItsPlaces 6 = .ok (.bipush 8, 2) := by decide +kernel
theorem dX0_hasItsPlaces_8 : decode cX0_hasItsPlaces 8 = .ok (.if_icmp .ge 20, 3) := by decide +kernel
theorem dX0_hasItsPlaces_11 : decode cX0_hasItsPlaces 11 = .ok (.aload_n 0, 1) := by decide +kernel
theorem dX0_hasItsPlaces_12 : decode cX0_hasItsPlaces 12 = .ok (.getfield 15, 3) := by decide +kernel
theorem dX0_hasItsPlaces_15 : decode cX0_hasItsPlaces 15 = .ok (.iload_n 1, 1) := by decide +kernel
theorem dX0_hasItsPlaces_16 : decode cX0_hasItsPlaces 16 = .ok (.iaload, 1) := by decide +kernel
theorem dX0_hasItsPlaces_17 : decode cX0_hasItsPlaces 17 = .ok (.ifCond .eq 5, 3) := by decide +kernel
theorem dX0_hasItsPlaces_20 : decode cX0_hasItsPlaces 20 = .ok (.iconst 0, 1) := by decide +kernel
theorem dX0_hasItsPlaces_21 : decode cX0_hasItsPlaces 21 = .ok (.ireturn, 1) := by decide +kernel
theorem dX0_hasItsPlaces_22 : decode cX0_hasItsPlaces 22 = .ok (.iinc 1 1, 3) := by decide +kernel
theorem dX0_hasItsPlaces_25 : decode cX0_hasItsPlaces 25 = .ok (.goto (-20), 3) := by decide +kernel
theorem dX0_hasItsPlaces_28 : decode cX0_hasItsPlaces 28 = .ok (.iconst 0, 1) := by decide +kernel
theorem dX0_hasItsPlaces_29 : decode cX0_hasItsPlaces 29 = .ok (.istore_n 1, 1) := by decide +kernel
theorem dX0_hasItsPlaces_30 : decode cX0_hasItsPlaces 30 = .ok (.iload_n 1, 1) := by decide +kernel
theorem dX0_hasItsPlaces_31 : decode cX0_hasItsPlaces 31 = .ok (.aload_n 0, 1) := by decide +kernel
theorem dX0_hasItsPlaces_32 : decode cX0_hasItsPlaces 32 = .ok (.getfield 36, 3) := by decide +kernel
theorem dX0_hasItsPlaces_35 : decode cX0_hasItsPlaces 35 = .ok (.if_icmp .ge 27, 3) := by decide +kernel
theorem dX0_hasItsPlaces_38 : decode cX0_hasItsPlaces 38 = .ok (.aload_n 0, 1) := by decide +kernel
theorem dX0_hasItsPlaces_39 : decode cX0_hasItsPlaces 39 = .ok (.getfield 21, 3) := by decide +kernel
theorem dX0_hasItsPlaces_42 : decode cX0_hasItsPlaces 42 = .ok (.iload_n 1, 1) := by decide +kernel
theorem dX0_hasItsPlaces_43 : decode cX0_hasItsPlaces 43 = .ok (.aaload, 1) := by decide +kernel
theorem dX0_hasItsPlaces_44 : decode cX0_hasItsPlaces 44 = .ok (.getfield 68, 3) := by decide +kernel
theorem dX0_hasItsPlaces_47 : decode cX0_hasItsPlaces 47 = .ok (.aload_n 0, 1) := by decide +kernel
theorem dX0_hasItsPlaces_48 : decode cX0_hasItsPlaces 48 = .ok (.getfield 9, 3) := by decide +kernel
theorem dX0_hasItsPlaces_51 : decode cX0_hasItsPlaces 51 = .ok (.if_icmp .lt 5, 3) := by decide +kernel
theorem dX0_hasItsPlaces_54 : decode cX0_hasItsPlaces 54 = .ok (.iconst 0, 1) := by decide +kernel
theorem dX0_hasItsPlaces_55 : decode cX0_hasItsPlaces 55 = .ok (.ireturn, 1) := by decide +kernel
theorem dX0_hasItsPlaces_56 : decode cX0_hasItsPlaces 56 = .ok (.iinc 1 1, 3) := by decide +kernel
theorem dX0_hasItsPlaces_59 : decode cX0_hasItsPlaces 59 = .ok (.goto (-29), 3) := by decide +kernel
theorem dX0_hasItsPlaces_62 : decode cX0_hasItsPlaces 62 = .ok (.iconst 0, 1) := by decide +kernel
theorem dX0_hasItsPlaces_63 : decode cX0_hasItsPlaces 63 = .ok (.istore_n 1, 1) := by decide +kernel
theorem dX0_hasItsPlaces_64 : decode cX0_hasItsPlaces 64 = .ok (.iload_n 1, 1) := by decide +kernel
theorem dX0_hasItsPlaces_65 : decode cX0_hasItsPlaces 65 = .ok (.aload_n 0, 1) := by decide +kernel
theorem dX0_hasItsPlaces_66 : decode cX0_hasItsPlaces 66 = .ok (.getfield 39, 3) := by decide +kernel
theorem dX0_hasItsPlaces_69 : decode cX0_hasItsPlaces 69 = .ok (.if_icmp .ge 27, 3) := by decide +kernel
theorem dX0_hasItsPlaces_72 : decode cX0_hasItsPlaces 72 = .ok (.aload_n 0, 1) := by decide +kernel
theorem dX0_hasItsPlaces_73 : decode cX0_hasItsPlaces 73 = .ok (.getfield 27, 3) := by decide +kernel
theorem dX0_hasItsPlaces_76 : decode cX0_hasItsPlaces 76 = .ok (.iload_n 1, 1) := by decide +kernel
theorem dX0_hasItsPlaces_77 : decode cX0_hasItsPlaces 77 = .ok (.aaload, 1) := by decide +kernel
theorem dX0_hasItsPlaces_78 : decode cX0_hasItsPlaces 78 = .ok (.getfield 80, 3) := by decide +kernel
theorem dX0_hasItsPlaces_81 : decode cX0_hasItsPlaces 81 = .ok (.aload_n 0, 1) := by decide +kernel
theorem dX0_hasItsPlaces_82 : decode cX0_hasItsPlaces 82 = .ok (.getfield 9, 3) := by decide +kernel
theorem dX0_hasItsPlaces_85 : decode cX0_hasItsPlaces 85 = .ok (.if_icmp .lt 5, 3) := by decide +kernel
theorem dX0_hasItsPlaces_88 : decode cX0_hasItsPlaces 88 = .ok (.iconst 0, 1) := by decide +kernel
theorem dX0_hasItsPlaces_89 : decode cX0_hasItsPlaces 89 = .ok (.ireturn, 1) := by decide +kernel
theorem dX0_hasItsPlaces_90 : decode cX0_hasItsPlaces 90 = .ok (.iinc 1 1, 3) := by decide +kernel
theorem dX0_hasItsPlaces_93 : decode cX0_hasItsPlaces 93 = .ok (.goto (-29), 3) := by decide +kernel
theorem dX0_hasItsPlaces_96 : decode cX0_hasItsPlaces 96 = .ok (.iconst 1, 1) := by decide +kernel
theorem dX0_hasItsPlaces_97 : decode cX0_hasItsPlaces 97 = .ok (.ireturn, 1) := by decide +kernel
theorem dX0_layDown_0 : decode cX0_layDown 0 = .ok (.aload_n 0, 1) := by decide +kernel
theorem dX0_layDown_1 : decode cX0_layDown 1 = .ok (.getfield 21, 3) := by decide +kernel
theorem dX0_layDown_4 : decode cX0_layDown 4 = .ok (.iload_n 1, 1) := by decide +kernel
theorem dX0_layDown_5 : decode cX0_layDown 5 = .ok (.aaload, 1) := by decide +kernel
theorem dX0_layDown_6 : decode cX0_layDown 6 = .ok (.getfield 68, 3) := by decide +kernel
theorem dX0_layDown_9 : decode cX0_layDown 9 = .ok (.bipush 10, 2) := by decide +kernel
theorem dX0_layDown_11 : decode cX0_layDown 11 = .ok (.isub, 1) := by decide +kernel
theorem dX0_layDown_12 : decode cX0_layDown 12 = .ok (.istore_n 3, 1) := by decide +kernel
theorem dX0_layDown_13 : decode cX0_layDown 13 = .ok (.iload_n 3, 1) := by decide +kernel
theorem dX0_layDown_14 : decode cX0_layDown 14 = .ok (.iconst 0, 1) := by decide +kernel
theorem dX0_layDown_15 : decode cX0_layDown 15 = .ok (.aload_n 0, 1) := by decide +kernel
theorem dX0_layDown_16 : decode cX0_layDown 16 = .ok (.getfield 39, 3) := by decide +kernel
theorem dX0_layDown_19 : decode cX0_layDown 19 = .ok (.iconst 1, 1) := by decide +kernel
theorem dX0_layDown_20 : decode cX0_layDown 20 = .ok (.isub, 1) := by decide +kernel
theorem dX0_layDown_21 : decode cX0_layDown 21 = .ok (.invokestatic 86, 3) := by decide +kernel
theorem dX0_layDown_24 : decode cX0_layDown 24 = .ok (.ifCond .eq 13, 3) := by decide +kernel
theorem dX0_layDown_27 : decode cX0_layDown 27 = .ok (.aload_n 0, 1) := by decide +kernel
theorem dX0_layDown_28 : decode cX0_layDown 28 = .ok (.getfield 27, 3) := by decide +kernel
theorem dX0_layDown_31 : decode cX0_layDown 31 = .ok (.iload_n 3, 1) := by decide +kernel
theorem dX0_layDown_32 : decode cX0_layDown 32 = .ok (.aaload, 1) := by decide +kernel
theorem dX0_layDown_33 : decode cX0_layDown 33 = .ok (.iconst (-1), 1) := by decide +kernel
theorem dX0_layDown_34 : decode cX0_layDown 34 = .ok (.putfield 83, 3) := by decide +kernel
theorem dX0_layDown_37 : decode cX0_layDown 37 = .ok (.aload_n 0, 1) := by decide +kernel
theorem dX0_layDown_38 : decode cX0_layDown 38 = .ok (.getfield 21, 3) := by decide +kernel
theorem dX0_layDown_41 : decode cX0_layDown 41 = .ok (.iload_n 1, 1) := by decide +kernel
theorem dX0_layDown_42 : decode cX0_layDown 42 = .ok (.aaload, 1) := by decide +kernel
theorem dX0_layDown_43 : decode cX0_layDown 43 = .ok (.iload_n 2, 1) := by decide +kernel
theorem dX0_layDown_44 : decode cX0_layDown 44 = .ok (.putfield 68, 3) := by decide +kernel
theorem dX0_layDown_47 : decode cX0_layDown 47 = .ok (.return_, 1) := by decide +kernel
theorem dX0_countBetween_0 : decode cX0_countBetween 0 = .ok (.iconst 0, 1) := by decide +kernel
theorem dX0_countBetween_1 : decode cX0_countBetween 1 = .ok (.istore_n 3, 1) := by decide +kernel
theorem dX0_countBetween_2 : decode cX0_countBetween 2 = .ok (.iconst 0, 1) := by decide +kernel
theorem dX0_countBetween_3 : decode cX0_countBetween 3 = .ok (.istore 4, 2) := by decide +kernel
theorem dX0_countBetween_5 : decode cX0_countBetween 5 = .ok (.iload 4, 2) := by decide +kernel
theorem dX0_countBetween_7 : decode cX0_countBetween 7 = .ok (.aload_n 0, 1) := by decide +kernel
theorem dX0_countBetween_8 : decode cX0_countBetween 8 = .ok (.getfield 36, 3) := by decide +kernel
theorem dX0_countBetween_11 : decode cX0_countBetween 11 = .ok (.if_icmp .ge 30, 3) := by decide +kernel
theorem dX0_countBetween_14 : decode cX0_countBetween 14 = .ok (.aload_n 0, 1) := by decide +kernel
theorem dX0_countBetween_15 : decode cX0_countBetween 15 = .ok (.getfield 21, 3) := by decide +kernel
theorem dX0_countBetween_18 : decode cX0_countBetween 18 = .ok (.iload 4, 2) := by decide +kernel
theorem dX0_countBetween_20 : decode cX0_countBetween 20 = .ok (.aaload, 1) := by decide +kernel
theorem dX0_countBetween_21 : decode cX0_countBetween 21 = .ok (.getfield 68, 3) := by decide +kernel
theorem dX0_countBetween_24 : decode cX0_countBetween 24 = .ok (.iload_n 1, 1) := by decide +kernel
theorem dX0_countBetween_25 : decode cX0_countBetween 25 = .ok (.iload_n 2, 1) := by decide +kernel
theorem dX0_countBetween_26 : decode cX0_countBetween 26 = .ok (.invokestatic 86, 3) := by decide +kernel
theorem dX0_countBetween_29 : decode cX0_countBetween 29 = .ok (.ifCond .eq 6, 3) := by decide +kernel
theorem dX0_countBetween_32 : decode cX0_countBetween 32 = .ok (.iinc 3 1, 3) := by decide +kernel
theorem dX0_countBetween_35 : decode cX0_countBetween 35 = .ok (.iinc 4 1, 3) := by decide +kernel
theorem dX0_countBetween_38 : decode cX0_countBetween 38 = .ok (.goto (-33), 3) := by decide +kernel
theorem dX0_countBetween_41 : decode cX0_countBetween 41 = .ok (.iload_n 3, 1) := by decide +kernel
theorem dX0_countBetween_42 : decode cX0_countBetween 42 = .ok (.ireturn, 1) := by decide +kernel
theorem dX0_rightPlace_0 : decode cX0_rightPlace 0 = .ok (.iconst (-1), 1) := by decide +kernel
theorem dX0_rightPlace_1 : decode cX0_rightPlace 1 = .ok (.istore_n 2, 1) := by decide +kernel
theorem dX0_rightPlace_2 : decode cX0_rightPlace 2 = .ok (.iconst 0, 1) := by decide +kernel
theorem dX0_rightPlace_3 : decode cX0_rightPlace 3 = .ok (.istore_n 3, 1) := by decide +kernel
theorem dX0_rightPlace_4 : decode cX0_rightPlace 4 = .ok (.iload_n 3, 1) := by decide +kernel
theorem dX0_rightPlace_5 : decode cX0_rightPlace 5 = .ok (.aload_n 0, 1) := by decide +kernel
theorem dX0_rightPlace_6 : decode cX0_rightPlace 6 = .ok (.getfield 9, 3) := by decide +kernel
theorem dX0_rightPlace_9 : decode cX0_rightPlace 9 = .ok (.if_icmp .ge 51, 3) := by decide +kernel
theorem dX0_rightPlace_12 : decode cX0_rightPlace 12 = .ok (.aload_n 1, 1) := by decide +kernel
theorem dX0_rightPlace_13 : decode cX0_rightPlace 13 = .ok (.getfield 64, 3) := by decide +kernel
theorem dX0_rightPlace_16 : decode cX0_rightPlace 16 = .ok (.ifCond .ne 44, 3) := by decide +kernel
theorem dX0_rightPlace_19 : decode cX0_rightPlace 19 = .ok (.aload_n 0, 1) := by decide +kernel
theorem dX0_rightPlace_20 : decode cX0_rightPlace 20 = .ok (.getfield 15, 3) := by decide +kernel
theorem dX0_rightPlace_23 : decode cX0_rightPlace 23 = .ok (.iload_n 3, 1) := by decide +kernel
theorem dX0_rightPlace_24 : decode cX0_rightPlace 24 = .ok (.iaload, 1) := by decide +kernel
theorem dX0_rightPlace_25 : decode cX0_rightPlace 25 = .ok (.aload_n 1, 1) := by decide +kernel
theorem dX0_rightPlace_26 : decode cX0_rightPlace 26 = .ok (.getfield 61, 3) := by decide +kernel
theorem dX0_rightPlace_29 : decode cX0_rightPlace 29 = .ok (.if_icmp .lt 25, 3) := by decide +kernel
theorem dX0_rightPlace_32 : decode cX0_rightPlace 32 = .ok (.iload_n 2, 1) := by decide +kernel
theorem dX0_rightPlace_33 : decode cX0_rightPlace 33 = .ok (.iconst (-1), 1) := by decide +kernel
theorem dX0_rightPlace_34 : decode cX0_rightPlace 34 = .ok (.if_icmp .eq 18, 3) := by decide +kernel
theorem dX0_rightPlace_37 : decode cX0_rightPlace 37 = .ok (.aload_n 0, 1) := by decide +kernel
theorem dX0_rightPlace_38 : decode cX0_rightPlace 38 = .ok (.getfield 15, 3) := by decide +kernel
theorem dX0_rightPlace_41 : decode cX0_rightPlace 41 = .ok (.iload_n 3, 1) := by decide +kernel
theorem dX0_rightPlace_42 : decode cX0_rightPlace 42 = .ok (.iaload, 1) := by decide +kernel
theorem dX0_rightPlace_43 : decode cX0_rightPlace 43 = .ok (.aload_n 0, 1) := by decide +kernel
theorem dX0_rightPlace_44 : decode cX0_rightPlace 44 = .ok (.getfield 15, 3) := by decide +kernel
theorem dX0_rightPlace_47 : decode cX0_rightPlace 47 = .ok (.iload_n 2, 1) := by decide +kernel
theorem dX0_rightPlace_48 : decode cX0_rightPlace 48 = .ok (.iaload, 1) := by decide +kernel
theorem dX0_rightPlace_49 : decode cX0_rightPlace 49 = .ok (.if_icmp .ge 5, 3) := by decide +kernel
theorem dX0_rightPlace_52 : decode cX0_rightPlace 52 = .ok (.iload_n 3, 1) := by decide +kernel
theorem dX0_rightPlace_53 : decode cX0_rightPlace 53 = .ok (.istore_n 2, 1) := by decide +kernel
theorem dX0_rightPlace_54 : decode cX0_rightPlace 54 = .ok (.iinc 3 1, 3) := by decide +kernel
theorem dX0_rightPlace_57 : decode cX0_rightPlace 57 = .ok (.goto (-53), 3) := by decide +kernel
theorem dX0_rightPlace_60 : decode cX0_rightPlace 60 = .ok (.iload_n 2, 1) := by decide +kernel
theorem dX0_rightPlace_61 : decode cX0_rightPlace 61 = .ok (.ireturn, 1) := by decide +kernel
theorem dX0_isRight_0 : decode cX0_isRight 0 = .ok (.aload_n 0, 1) := by decide +kernel
theorem dX0_isRight_1 : decode cX0_isRight 1 = .ok (.aload_n 1, 1) := by decide +kernel
theorem dX0_isRight_2 : decode cX0_isRight 2 = .ok (.invokevirtual 90, 3) := by decide +kernel
theorem dX0_isRight_5 : decode cX0_isRight 5 = .ok (.istore_n 2, 1) := by decide +kernel
theorem dX0_isRight_6 : decode cX0_isRight 6 = .ok (.iload_n 2, 1) := by decide +kernel
theorem dX0_isRight_7 : decode cX0_isRight 7 = .ok (.iconst (-1), 1) := by decide +kernel
theorem dX0_isRight_8 : decode cX0_isRight 8 = .ok (.if_icmp .eq 14, 3) := by decide +kernel
theorem dX0_isRight_11 : decode cX0_isRight 11 = .ok (.aload_n 1, 1) := by decide +kernel
theorem dX0_isRight_12 : decode cX0_isRight 12 = .ok (.getfield 68, 3) := by decide +kernel
theorem dX0_isRight_15 : decode cX0_isRight 15 = .ok (.bipush 20, 2) := by decide +kernel
theorem dX0_isRight_17 : decode cX0_isRight 17 = .ok (.iload_n 2, 1) := by decide +kernel
theorem dX0_isRight_18 : decode cX0_isRight 18 = .ok (.iadd, 1) := by decide +kernel
theorem dX0_isRight_19 : decode cX0_isRight 19 = .ok (.if_icmp .ne 7, 3) := by decide +kernel
theorem dX0_isRight_22 : decode cX0_isRight 22 = .ok (.iconst 1, 1) := by decide +kernel
theorem dX0_isRight_23 : decode cX0_isRight 23 = .ok (.goto 4, 3) := by decide +kernel
theorem dX0_isRight_26 : decode cX0_isRight 26 = .ok (.iconst 0, 1) := by decide +kernel
theorem dX0_isRight_27 : decode cX0_isRight 27 = .ok (.ireturn, 1) := by decide +kernel
theorem dX0_countRight_0 : decode cX0_countRight 0 = .ok (.iconst 0, 1) := by decide +kernel
theorem dX0_countRight_1 : decode cX0_countRight 1 = .ok (.istore_n 1, 1) := by decide +kernel
theorem dX0_countRight_2 : decode cX0_countRight 2 = .ok (.iconst 0, 1) := by decide +kernel
theorem dX0_countRight_3 : decode cX0_countRight 3 = .ok (.istore_n 2, 1) := by decide +kernel
theorem dX0_countRight_4 : decode cX0_countRight 4 = .ok (.iload_n 2, 1) := by decide +kernel
theorem dX0_countRight_5 : decode cX0_countRight 5 = .ok (.aload_n 0, 1) := by decide +kernel
theorem dX0_countRight_6 : decode cX0_countRight 6 = .ok (.getfield 36, 3) := by decide +kernel
theorem dX0_countRight_9 : decode cX0_countRight 9 = .ok (.if_icmp .ge 25, 3) := by decide +kernel
theorem dX0_countRight_12 : decode cX0_countRight 12 = .ok (.aload_n 0, 1) := by decide +kernel
theorem dX0_countRight_13 : decode cX0_countRight 13 = .ok (.aload_n 0, 1) := by decide +kernel
theorem dX0_countRight_14 : decode cX0_countRight 14 = .ok (.getfield 21, 3) := by decide +kernel
theorem dX0_countRight_17 : decode cX0_countRight 17 = .ok (.iload_n 2, 1) := by decide +kernel
theorem dX0_countRight_18 : decode cX0_countRight 18 = .ok (.aaload, 1) := by decide +kernel
theorem dX0_countRight_19 : decode cX0_countRight 19 = .ok (.invokevirtual 94, 3) := by decide +kernel
theorem dX0_countRight_22 : decode cX0_countRight 22 = .ok (.ifCond .eq 6, 3) := by decide +kernel
theorem dX0_countRight_25 : decode cX0_countRight 25 = .ok (.iinc 1 1, 3) := by decide +kernel
theorem dX0_countRight_28 : decode cX0_countRight 28 = .ok (.iinc 2 1, 3) := by decide +kernel
theorem dX0_countRight_31 : decode cX0_countRight 31 = .ok (.goto (-27), 3) := by decide +kernel
theorem dX0_countRight_34 : decode cX0_countRight 34 = .ok (.iload_n 1, 1) := by decide +kernel
theorem dX0_countRight_35 : decode cX0_countRight 35 = .ok (.ireturn, 1) := by decide +kernel
theorem dX0_growWeeks_0 : decode cX0_growWeeks 0 = .ok (.iconst 0, 1) := by decide +kernel
theorem dX0_growWeeks_1 : decode cX0_growWeeks 1 = .ok (.istore_n 2, 1) := by decide +kernel
theorem dX0_growWeeks_2 : decode cX0_growWeeks 2 = .ok (.iload_n 2, 1) := by decide +kernel
theorem dX0_growWeeks_3 : decode cX0_growWeeks 3 = .ok (.aload_n 0, 1) := by decide +kernel
theorem dX0_growWeeks_4 : decode cX0_growWeeks 4 = .ok (.getfield 39, 3) := by decide +kernel
theorem dX0_growWeeks_7 : decode cX0_growWeeks 7 = .ok (.if_icmp .ge 59, 3) := by decide +kernel
theorem dX0_growWeeks_10 : decode cX0_growWeeks 10 = .ok (.aload_n 0, 1) := by decide +kernel
theorem dX0_growWeeks_11 : decode cX0_growWeeks 11 = .ok (.getfield 27, 3) := by decide +kernel
theorem dX0_growWeeks_14 : decode cX0_growWeeks 14 = .ok (.iload_n 2, 1) := by decide +kernel
theorem dX0_growWeeks_15 : decode cX0_growWeeks 15 = .ok (.aaload, 1) := by decide +kernel
theorem dX0_growWeeks_16 : decode cX0_growWeeks 16 = .ok (.bipush 9, 2) := by decide +kernel
theorem dX0_growWeeks_18 : decode cX0_growWeeks 18 = .ok (.aload_n 0, 1) := by decide +kernel
theorem dX0_growWeeks_19 : decode cX0_growWeeks 19 = .ok (.getfield 27, 3) := by decide +kernel
theorem dX0_growWeeks_22 : decode cX0_growWeeks 22 = .ok (.iload_n 2, 1) := by decide +kernel
theorem dX0_growWeeks_23 : decode cX0_growWeeks 23 = .ok (.aaload, 1) := by decide +kernel
theorem dX0_growWeeks_24 : decode cX0_growWeeks 24 = .ok (.getfield 74, 3) := by decide +kernel
theorem dX0_growWeeks_27 : decode cX0_growWeeks 27 = .ok (.iload_n 1, 1) := by decide +kernel
theorem dX0_growWeeks_28 : decode cX0_growWeeks 28 = .ok (.iadd, 1) := by decide +kernel
theorem dX0_growWeeks_29 : decode cX0_growWeeks 29 = .ok (.invokestatic 98, 3) := by decide +kernel
theorem dX0_growWeeks_32 : decode cX0_growWeeks 32 = .ok (.putfield 74, 3) := by decide +kernel
theorem dX0_growWeeks_35 : decode cX0_growWeeks 35 = .ok (.aload_n 0, 1) := by decide +kernel
theorem dX0_growWeeks_36 : decode cX0_growWeeks 36 = .ok (.getfield 27, 3) := by decide +kernel
theorem dX0_growWeeks_39 : decode cX0_growWeeks 39 = .ok (.iload_n 2, 1) := by decide +kernel
theorem dX0_growWeeks_40 : decode cX0_growWeeks 40 = .ok (.aaload, 1) := by decide +kernel
theorem dX0_growWeeks_41 : decode cX0_growWeeks 41 = .ok (.bipush 9, 2) := by decide +kernel
theorem dX0_growWeeks_43 : decode cX0_growWeeks 43 = .ok (.aload_n 0, 1) := by decide +kernel
theorem dX0_growWeeks_44 : decode cX0_growWeeks 44 = .ok (.getfield 27, 3) := by decide +kernel
theorem dX0_growWeeks_47 : decode cX0_growWeeks 47 = .ok (.iload_n 2, 1) := by decide +kernel
theorem dX0_growWeeks_48 : decode cX0_growWeeks 48 = .ok (.aaload, 1) := by decide +kernel
theorem dX0_growWeeks_49 : decode cX0_growWeeks 49 = .ok (.getfield 77, 3) := by decide +kernel
theorem dX0_growWeeks_52 : decode cX0_growWeeks 52 = .ok (.iload_n 1, 1) := by decide +kernel
theorem dX0_growWeeks_53 : decode cX0_growWeeks 53 = .ok (.iadd, 1) := by decide +kernel
theorem dX0_growWeeks_54 : decode cX0_growWeeks 54 = .ok (.invokestatic 98, 3) := by decide +kernel
theorem dX0_growWeeks_57 : decode cX0_growWeeks 57 = .ok (.putfield 77, 3) := by decide +kernel
theorem dX0_growWeeks_60 : decode cX0_growWeeks 60 = .ok (.iinc 2 1, 3) := by decide +kernel
theorem dX0_growWeeks_63 : decode cX0_growWeeks 63 = .ok (.goto (-61), 3) := by decide +kernel
theorem dX0_growWeeks_66 : decode cX0_growWeeks 66 = .ok (.return_, 1) := by decide +kernel
theorem dX0_greatestClaw_0 : decode cX0_greatestClaw 0 = .ok (.iconst 0, 1) := by decide +kernel
theorem dX0_greatestClaw_1 : decode cX0_greatestClaw 1 = .ok (.istore_n 1, 1) := by decide +kernel
theorem dX0_greatestClaw_2 : decode cX0_greatestClaw 2 = .ok (.iconst 0, 1) := by decide +kernel
theorem dX0_greatestClaw_3 : decode cX0_greatestClaw 3 = .ok (.istore_n 2, 1) := by decide +kernel
theorem dX0_greatestClaw_4 : decode cX0_greatestClaw 4 = .ok (.iload_n 2, 1) := by decide +kernel
theorem dX0_greatestClaw_5 : decode cX0_greatestClaw 5 = .ok (.aload_n 0, 1) := by decide +kernel
theorem dX0_greatestClaw_6 : decode cX0_greatestClaw 6 = .ok (.getfield 39, 3) := by decide +kernel
theorem dX0_greatestClaw_9 : decode cX0_greatestClaw 9 = .ok (.if_icmp .ge 23, 3) := by decide +kernel
theorem dX0_greatestClaw_12 : decode cX0_greatestClaw 12 = .ok (.iload_n 1, 1) := by decide +kernel
theorem dX0_greatestClaw_13 : decode cX0_greatestClaw 13 = .ok (.aload_n 0, 1) := by decide +kernel
theorem dX0_greatestClaw_14 : decode cX0_greatestClaw 14 = .ok (.getfield 27, 3) := by decide +kernel
theorem dX0_greatestClaw_17 : decode cX0_greatestClaw 17 = .ok (.iload_n 2, 1) := by decide +kernel
theorem dX0_greatestClaw_18 : decode cX0_greatestClaw 18 = .ok (.aaload, 1) := by decide +kernel
theorem dX0_greatestClaw_19 : decode cX0_greatestClaw 19 = .ok (.getfield 74, 3) := by decide +kernel
theorem dX0_greatestClaw_22 : decode cX0_greatestClaw 22 = .ok (.invokestatic 104, 3) := by decide +kernel
theorem dX0_greatestClaw_25 : decode cX0_greatestClaw 25 = .ok (.istore_n 1, 1) := by decide +kernel
theorem dX0_greatestClaw_26 : decode cX0_greatestClaw 26 = .ok (.iinc 2 1, 3) := by decide +kernel
theorem dX0_greatestClaw_29 : decode cX0_greatestClaw 29 = .ok (.goto (-25), 3) := by decide +kernel
theorem dX0_greatestClaw_32 : decode cX0_greatestClaw 32 = .ok (.iload_n 1, 1) := by decide +kernel
theorem dX0_greatestClaw_33 : decode cX0_greatestClaw 33 = .ok (.ireturn, 1) := by decide +kernel
theorem dX0_goSteps_0 : decode cX0_goSteps 0 = .ok (.iconst 0, 1) := by decide +kernel
theorem dX0_goSteps_1 : decode cX0_goSteps 1 = .ok (.istore_n 2, 1) := by decide +kernel
theorem dX0_goSteps_2 : decode cX0_goSteps 2 = .ok (.iload_n 2, 1) := by decide +kernel
theorem dX0_goSteps_3 : decode cX0_goSteps 3 = .ok (.iload_n 1, 1) := by decide +kernel
theorem dX0_goSteps_4 : decode cX0_goSteps 4 = .ok (.if_icmp .ge 13, 3) := by decide +kernel
theorem dX0_goSteps_7 : decode cX0_goSteps 7 = .ok (.aload_n 0, 1) := by decide +kernel
theorem dX0_goSteps_8 : decode cX0_goSteps 8 = .ok (.invokevirtual 107, 3) := by decide +kernel
theorem dX0_goSteps_11 : decode cX0_goSteps 11 = .ok (.iinc 2 1, 3) := by decide +kernel
theorem dX0_goSteps_14 : decode cX0_goSteps 14 = .ok (.goto (-12), 3) := by decide +kernel
theorem dX0_goSteps_17 : decode cX0_goSteps 17 = .ok (.return_, 1) := by decide +kernel
theorem dX0_goStep_0 : decode cX0_goStep 0 = .ok (.iconst 0, 1) := by decide +kernel
theorem dX0_goStep_1 : decode cX0_goStep 1 = .ok (.istore_n 1, 1) := by decide +kernel
theorem dX0_goStep_2 : decode cX0_goStep 2 = .ok (.iload_n 1, 1) := by decide +kernel
theorem dX0_goStep_3 : decode cX0_goStep 3 = .ok (.aload_n 0, 1) := by decide +kernel
theorem dX0_goStep_4 : decode cX0_goStep 4 = .ok (.getfield 42, 3) := by decide +kernel
theorem dX0_goStep_7 : decode cX0_goStep 7 = .ok (.if_icmp .ge 19, 3) := by decide +kernel
theorem dX0_goStep_10 : decode cX0_goStep 10 = .ok (.aload_n 0, 1) := by decide +kernel
theorem dX0_goStep_11 : decode cX0_goStep 11 = .ok (.aload_n 0, 1) := by decide +kernel
theorem dX0_goStep_12 : decode cX0_goStep 12 = .ok (.getfield 31, 3) := by decide +kernel
theorem dX0_goStep_15 : decode cX0_goStep 15 = .ok (.iload_n 1, 1) := by decide +kernel
theorem dX0_goStep_16 : decode cX0_goStep 16 = .ok (.iaload, 1) := by decide +kernel
theorem dX0_goStep_17 : decode cX0_goStep 17 = .ok (.invokevirtual 110, 3) := by decide +kernel
theorem dX0_goStep_20 : decode cX0_goStep 20 = .ok (.iinc 1 1, 3) := by decide +kernel
theorem dX0_goStep_23 : decode cX0_goStep 23 = .ok (.goto (-21), 3) := by decide +kernel
theorem dX0_goStep_26 : decode cX0_goStep 26 = .ok (.aload_n 0, 1) := by decide +kernel
theorem dX0_goStep_27 : decode cX0_goStep 27 = .ok (.invokevirtual 114, 3) := by decide +kernel
theorem dX0_goStep_30 : decode cX0_goStep 30 = .ok (.aload_n 0, 1) := by decide +kernel
theorem dX0_goStep_31 : decode cX0_goStep 31 = .ok (.dup, 1) := by decide +kernel
theorem dX0_goStep_32 : decode cX0_goStep 32 = .ok (.getfield 51, 3) := by decide +kernel
theorem dX0_goStep_35 : decode cX0_goStep 35 = .ok (.iconst 1, 1) := by decide +kernel
theorem dX0_goStep_36 : decode cX0_goStep 36 = .ok (.iadd, 1) := by decide +kernel
theorem dX0_goStep_37 : decode cX0_goStep 37 = .ok (.putfield 51, 3) := by decide +kernel
theorem dX0_goStep_40 : decode cX0_goStep 40 = .ok (.aload_n 0, 1) := by decide +kernel
theorem dX0_goStep_41 : decode cX0_goStep 41 = .ok (.getfield 45, 3) := by decide +kernel
theorem dX0_goStep_44 : decode cX0_goStep 44 = .ok (.ifCond .le 26, 3) := by decide +kernel
theorem dX0_goStep_47 : decode cX0_goStep 47 = .ok (.aload_n 0, 1) := by decide +kernel
theorem dX0_goStep_48 : decode cX0_goStep 48 = .ok (.getfield 51, 3) := by decide +kernel
theorem dX0_goStep_51 : decode cX0_goStep 51 = .ok (.aload_n 0, 1) := by decide +kernel
theorem dX0_goStep_52 : decode cX0_goStep 52 = .ok (.getfield 45, 3) := by decide +kernel
theorem dX0_goStep_55 : decode cX0_goStep 55 = .ok (.irem, 1) := by decide +kernel
theorem dX0_goStep_56 : decode cX0_goStep 56 = .ok (.ifCond .ne 14, 3) := by decide +kernel
theorem dX0_goStep_59 : decode cX0_goStep 59 = .ok (.aload_n 0, 1) := by decide +kernel
theorem dX0_goStep_60 : decode cX0_goStep 60 = .ok (.iconst 0, 1) := by decide +kernel
theorem dX0_goStep_61 : decode cX0_goStep 61 = .ok (.aload_n 0, 1) := by decide +kernel
theorem dX0_goStep_62 : decode cX0_goStep 62 = .ok (.getfield 48, 3) := by decide +kernel
theorem dX0_goStep_65 : decode cX0_goStep 65 = .ok (.iconst 1, 1) := by decide +kernel
theorem dX0_goStep_66 : decode cX0_goStep 66 = .ok (.isub, 1) := by decide +kernel
theorem dX0_goStep_67 : decode cX0_goStep 67 = .ok (.invokevirtual 117, 3) := by decide +kernel
theorem dX0_goStep_70 : decode cX0_goStep 70 = .ok (.return_, 1) := by decide +kernel
theorem dX0_act_0 : decode cX0_act 0 = .ok (.aload_n 0, 1) := by decide +kernel
theorem dX0_act_1 : decode cX0_act 1 = .ok (.getfield 27, 3) := by decide +kernel
theorem dX0_act_4 : decode cX0_act 4 = .ok (.iload_n 1, 1) := by decide +kernel
theorem dX0_act_5 : decode cX0_act 5 = .ok (.aaload, 1) := by decide +kernel
theorem dX0_act_6 : decode cX0_act 6 = .ok (.astore_n 2, 1) := by decide +kernel
theorem dX0_act_7 : decode cX0_act 7 = .ok (.aload_n 2, 1) := by decide +kernel
theorem dX0_act_8 : decode cX0_act 8 = .ok (.invokevirtual 121, 3) := by decide +kernel
theorem dX0_act_11 : decode cX0_act 11 = .ok (.ifCond .eq 55, 3) := by decide +kernel
theorem dX0_act_14 : decode cX0_act 14 = .ok (.aload_n 0, 1) := by decide +kernel
theorem dX0_act_15 : decode cX0_act 15 = .ok (.getfield 15, 3) := by decide +kernel
theorem dX0_act_18 : decode cX0_act 18 = .ok (.aload_n 2, 1) := by decide +kernel
theorem dX0_act_19 : decode cX0_act 19 = .ok (.getfield 80, 3) := by decide +kernel
theorem dX0_act_22 : decode cX0_act 22 = .ok (.iaload, 1) := by decide +kernel
theorem dX0_act_23 : decode cX0_act 23 = .ok (.aload_n 2, 1) := by decide +kernel
theorem dX0_act_24 : decode cX0_act 24 = .ok (.getfield 77, 3) := by decide +kernel
theorem dX0_act_27 : decode cX0_act 27 = .ok (.if_icmp .lt 30, 3) := by decide +kernel
theorem dX0_act_30 : decode cX0_act 30 = .ok (.aload_n 0, 1) := by decide +kernel
theorem dX0_act_31 : decode cX0_act 31 = .ok (.getfield 21, 3) := by decide +kernel
theorem dX0_act_34 : decode cX0_act 34 = .ok (.aload_n 2, 1) := by decide +kernel
theorem dX0_act_35 : decode cX0_act 35 = .ok (.getfield 83, 3) := by decide +kernel
theorem dX0_act_38 : decode cX0_act 38 = .ok (.aaload, 1) := by decide +kernel
theorem dX0_act_39 : decode cX0_act 39 = .ok (.bipush 20, 2) := by decide +kernel
theorem dX0_act_41 : decode cX0_act 41 = .ok (.aload_n 2, 1) := by decide +kernel
theorem dX0_act_42 : decode cX0_act 42 = .ok (.getfield 80, 3) := by decide +kernel
theorem dX0_act_45 : decode cX0_act 45 = .ok (.iadd, 1) := by decide +kernel
theorem dX0_act_46 : decode cX0_act 46 = .ok (.putfield 68, 3) := by decide +kernel
theorem dX0_act_49 : decode cX0_act 49 = .ok (.aload_n 2, 1) := by decide +kernel
theorem dX0_act_50 : decode cX0_act 50 = .ok (.iconst (-1), 1) := by decide +kernel
theorem dX0_act_51 : decode cX0_act 51 = .ok (.putfield 83, 3) := by decide +kernel
theorem dX0_act_54 : decode cX0_act 54 = .ok (.goto 11, 3) := by decide +kernel
theorem dX0_act_57 : decode cX0_act 57 = .ok (.aload_n 2, 1) := by decide +kernel
theorem dX0_act_58 : decode cX0_act 58 = .ok (.aload_n 0, 1) := by decide +kernel
theorem dX0_act_59 : decode cX0_act 59 = .ok (.getfield 9, 3) := by decide +kernel
theorem dX0_act_62 : decode cX0_act 62 = .ok (.invokevirtual 125, 3) := by decide +kernel
theorem dX0_act_65 : decode cX0_act 65 = .ok (.return_, 1) := by decide +kernel
theorem dX0_act_66 : decode cX0_act 66 = .ok (.aload_n 0, 1) := by decide +kernel
theorem dX0_act_67 : decode cX0_act 67 = .ok (.aload_n 2, 1) := by decide +kernel
theorem dX0_act_68 : decode cX0_act 68 = .ok (.invokevirtual 128, 3) := by decide +kernel
theorem dX0_act_71 : decode cX0_act 71 = .ok (.istore_n 3, 1) := by decide +kernel
theorem dX0_act_72 : decode cX0_act 72 = .ok (.iload_n 3, 1) := by decide +kernel
theorem dX0_act_73 : decode cX0_act 73 = .ok (.iconst (-1), 1) := by decide +kernel
theorem dX0_act_74 : decode cX0_act 74 = .ok (.if_icmp .ne 14, 3) := by decide +kernel
theorem dX0_act_77 : decode cX0_act 77 = .ok (.aload_n 2, 1) := by decide +kernel
theorem dX0_act_78 : decode cX0_act 78 = .ok (.aload_n 0, 1) := by decide +kernel
theorem dX0_act_79 : decode cX0_act 79 = .ok (.getfield 9, 3) := by decide +kernel
theorem dX0_act_82 : decode cX0_act 82 = .ok (.invokevirtual 125, 3) := by decide +kernel
theorem dX0_act_85 : decode cX0_act 85 = .ok (.goto 21, 3) := by decide +kernel
theorem dX0_act_88 : decode cX0_act 88 = .ok (.aload_n 0, 1) := by decide +kernel
theorem dX0_act_89 : decode cX0_act 89 = .ok (.getfield 21, 3) := by decide +kernel
theorem dX0_act_92 : decode cX0_act 92 = .ok (.iload_n 3, 1) := by decide +kernel
theorem dX0_act_93 : decode cX0_act 93 = .ok (.aaload, 1) := by decide +kernel
theorem dX0_act_94 : decode cX0_act 94 = .ok (.bipush 10, 2) := by decide +kernel
theorem dX0_act_96 : decode cX0_act 96 = .ok (.iload_n 1, 1) := by decide +kernel
theorem dX0_act_97 : decode cX0_act 97 = .ok (.iadd, 1) := by decide +kernel
theorem dX0_act_98 : decode cX0_act 98 = .ok (.putfield 68, 3) := by decide +kernel
theorem dX0_act_101 : decode cX0_act 101 = .ok (.aload_n 2, 1) := by decide +kernel
theorem dX0_act_102 : decode cX0_act 102 = .ok (.iload_n 3, 1) := by decide +kernel
theorem dX0_act_103 : decode cX0_act 103 = .ok (.putfield 83, 3) := by decide +kernel
theorem dX0_act_106 : decode cX0_act 106 = .ok (.return_, 1) := by decide +kernel
theorem dX0_firstFitting_0 : decode cX0_firstFitting 0 = .ok (.iconst 0, 1) := by decide +kernel
theorem dX0_firstFitting_1 : decode cX0_firstFitting 1 = .ok (.istore_n 2, 1) := by decide +kernel
theorem dX0_firstFitting_2 : decode cX0_firstFitting 2 = .ok (.iload_n 2, 1) := by decide +kernel
theorem dX0_firstFitting_3 : decode cX0_firstFitting 3 = .ok (.aload_n 0, 1) := by decide +kernel
theorem dX0_firstFitting_4 : decode cX0_firstFitting 4 = .ok (.getfield 36, 3) := by decide +kernel
theorem dX0_firstFitting_7 : decode cX0_firstFitting 7 = .ok (.if_icmp .ge 40, 3) := by decide +kernel
theorem dX0_firstFitting_10 : decode cX0_firstFitting 10 = .ok (.aload_n 0, 1) := by decide +kernel
theorem dX0_firstFitting_11 : decode cX0_firstFitting 11 = .ok (.getfield 21, 3) := by decide +kernel
theorem dX0_firstFitting_14 : decode cX0_firstFitting 14 = .ok (.iload_n 2, 1) := by decide +kernel
theorem dX0_firstFitting_15 : decode cX0_firstFitting 15 = .ok (.aaload, 1) := by decide +kernel
theorem dX0_firstFitting_16 : decode cX0_firstFitting 16 = .ok (.getfield 68, 3) := by decide +kernel
theorem dX0_firstFitting_19 : decode cX0_firstFitting 19 = .ok (.aload_n 1, 1) := by decide +kernel
theorem dX0_firstFitting_20 : decode cX0_firstFitting 20 = .ok (.getfield 80, 3) := by decide +kernel
theorem dX0_firstFitting_23 : decode cX0_firstFitting 23 = .ok (.if_icmp .ne 18, 3) := by decide +kernel
theorem dX0_firstFitting_26 : decode cX0_firstFitting 26 = .ok (.aload_n 1, 1) := by decide +kernel
theorem dX0_firstFitting_27 : decode cX0_firstFitting 27 = .ok (.aload_n 0, 1) := by decide +kernel
theorem dX0_firstFitting_28 : decode cX0_firstFitting 28 = .ok (.getfield 21, 3) := by decide +kernel
theorem dX0_firstFitting_31 : decode cX0_firstFitting 31 = .ok (.iload_n 2, 1) := by decide +kernel
theorem dX0_firstFitting_32 : decode cX0_firstFitting 32 = .ok (.aaload, 1) := by decide +kernel
theorem dX0_firstFitting_33 : decode cX0_firstFitting 33 = .ok (.invokevirtual 132, 3) := by decide +kernel
theorem dX0_firstFitting_36 : decode cX0_firstFitting 36 = .ok (.ifCond .eq 5, 3) := by decide +kernel
theorem dX0_firstFitting_39 : decode cX0_firstFitting 39 = .ok (.iload_n 2, 1) := by decide +kernel
theorem dX0_firstFitting_40 : decode cX0_firstFitting 40 = .ok (.ireturn, 1) := by decide +kernel
theorem dX0_firstFitting_41 : decode cX0_firstFitting 41 = .ok (.iinc 2 1, 3) := by decide +kernel
theorem dX0_firstFitting_44 : decode cX0_firstFitting 44 = .ok (.goto (-42), 3) := by decide +kernel
theorem dX0_firstFitting_47 : decode cX0_firstFitting 47 = .ok (.iconst (-1), 1) := by decide +kernel
theorem dX0_firstFitting_48 : decode cX0_firstFitting 48 = .ok (.ireturn, 1) := by decide +kernel
theorem dX0_settleFights_0 : decode cX0_settleFights 0 = .ok (.iconst 0, 1) := by decide +kernel
theorem dX0_settleFights_1 : decode cX0_settleFights 1 = .ok (.istore_n 1, 1) := by decide +kernel
theorem dX0_settleFights_2 : decode cX0_settleFights 2 = .ok (.iconst 0, 1) := by decide +kernel
theorem dX0_settleFights_3 : decode cX0_settleFights 3 = .ok (.istore_n 2, 1) := by decide +kernel
theorem dX0_settleFights_4 : decode cX0_settleFights 4 = .ok (.iload_n 2, 1) := by decide +kernel
theorem dX0_settleFights_5 : decode cX0_settleFights 5 = .ok (.aload_n 0, 1) := by decide +kernel
theorem dX0_settleFights_6 : decode cX0_settleFights 6 = .ok (.getfield 42, 3) := by decide +kernel
theorem dX0_settleFights_9 : decode cX0_settleFights 9 = .ok (.if_icmp .ge 33, 3) := by decide +kernel
theorem dX0_settleFights_12 : decode cX0_settleFights 12 = .ok (.aload_n 0, 1) := by decide +kernel
theorem dX0_settleFights_13 : decode cX0_settleFights 13 = .ok (.aload_n 0, 1) := by decide +kernel
theorem dX0_settleFights_14 : decode cX0_settleFights 14 = .ok (.getfield 31, 3) := by decide +kernel
theorem dX0_settleFights_17 : decode cX0_settleFights 17 = .ok (.iload_n 2, 1) := by decide +kernel
theorem dX0_settleFights_18 : decode cX0_settleFights 18 = .ok (.iaload, 1) := by decide +kernel
theorem dX0_settleFights_19 : decode cX0_settleFights 19 = .ok (.invokevirtual 135, 3) := by decide +kernel
theorem dX0_settleFights_22 : decode cX0_settleFights 22 = .ok (.ifCond .eq 14, 3) := by decide +kernel
theorem dX0_settleFights_25 : decode cX0_settleFights 25 = .ok (.iload_n 1, 1) := by decide +kernel
theorem dX0_settleFights_26 : decode cX0_settleFights 26 = .ok (.iconst 1, 1) := by decide +kernel
theorem dX0_settleFights_27 : decode cX0_settleFights 27 = .ok (.aload_n 0, 1) := by decide +kernel
theorem dX0_settleFights_28 : decode cX0_settleFights 28 = .ok (.getfield 31, 3) := by decide +kernel
theorem dX0_settleFights_31 : decode cX0_settleFights 31 = .ok (.iload_n 2, 1) := by decide +kernel
theorem dX0_settleFights_32 : decode cX0_settleFights 32 = .ok (.iaload, 1) := by decide +kernel
theorem dX0_settleFights_33 : decode cX0_settleFights 33 = .ok (.ishl, 1) := by decide +kernel
theorem dX0_settleFights_34 : decode cX0_settleFights 34 = .ok (.ior, 1) := by decide +kernel
theorem dX0_settleFights_35 : decode cX0_settleFights 35 = .ok (.istore_n 1, 1) := by decide +kernel
theorem dX0_settleFights_36 : decode cX0_settleFights 36 = .ok (.iinc 2 1, 3) := by decide +kernel
theorem dX0_settleFights_39 : decode cX0_settleFights 39 = .ok (.goto (-35), 3) := by decide +kernel
theorem dX0_settleFights_42 : decode cX0_settleFights 42 = .ok (.iconst 0, 1) := by decide +kernel
theorem dX0_settleFights_43 : decode cX0_settleFights 43 = .ok (.istore_n 2, 1) := by decide +kernel
theorem dX0_settleFights_44 : decode cX0_settleFights 44 = .ok (.iload_n 2, 1) := by decide +kernel
theorem dX0_settleFights_45 : decode cX0_settleFights 45 = .ok (.aload_n 0, 1) := by decide +kernel
theorem dX0_settleFights_46 : decode cX0_settleFights 46 = .ok (.getfield 39, 3) := by decide +kernel
theorem dX0_settleFights_49 : decode cX0_settleFights 49 = .ok (.if_icmp .ge 58, 3) := by decide +kernel
theorem dX0_settleFights_52 : decode cX0_settleFights 52 = .ok (.iload_n 1, 1) := by decide +kernel
theorem dX0_settleFights_53 : decode cX0_settleFights 53 = .ok (.ifCond .eq 54, 3) := by decide +kernel
theorem dX0_settleFights_56 : decode cX0_settleFights 56 = .ok (.iload_n 1, 1) := by decide +kernel
theorem dX0_settleFights_57 : decode cX0_settleFights 57 = .ok (.iload_n 2, 1) := by decide +kernel
theorem dX0_settleFights_58 : decode cX0_settleFights 58 = .ok (.ishr, 1) := by decide +kernel
theorem dX0_settleFights_59 : decode cX0_settleFights 59 = .ok (.iconst 1, 1) := by decide +kernel
theorem dX0_settleFights_60 : decode cX0_settleFights 60 = .ok (.iand, 1) := by decide +kernel
theorem dX0_settleFights_61 : decode cX0_settleFights 61 = .ok (.iconst 1, 1) := by decide +kernel
theorem dX0_settleFights_62 : decode cX0_settleFights 62 = .ok (.if_icmp .ne 39, 3) := by decide +kernel
theorem dX0_settleFights_65 : decode cX0_settleFights 65 = .ok (.aload_n 0, 1) := by decide +kernel
theorem dX0_settleFights_66 : decode cX0_settleFights 66 = .ok (.getfield 21, 3) := by decide +kernel
theorem dX0_settleFights_69 : decode cX0_settleFights 69 = .ok (.aload_n 0, 1) := by decide +kernel
theorem dX0_settleFights_70 : decode cX0_settleFights 70 = .ok (.getfield 27, 3) := by decide +kernel
theorem dX0_settleFights_73 : decode cX0_settleFights 73 = .ok (.iload_n 2, 1) := by decide +kernel
theorem dX0_settleFights_74 : decode cX0_settleFights 74 = .ok (.aaload, 1) := by decide +kernel
theorem dX0_settleFights_75 : decode cX0_settleFights 75 = .ok (.getfield 83, 3) := by decide +kernel
theorem dX0_settleFights_78 : decode cX0_settleFights 78 = .ok (.aaload, 1) := by decide +kernel
theorem dX0_settleFights_79 : decode cX0_settleFights 79 = .ok (.aload_n 0, 1) := by decide +kernel
theorem dX0_settleFights_80 : decode cX0_settleFights 80 = .ok (.getfield 27, 3) := by decide +kernel
theorem dX0_settleFights_83 : decode cX0_settleFights 83 = .ok (.iload_n 2, 1) := by decide +kernel
theorem dX0_settleFights_84 : decode cX0_settleFights 84 = .ok (.aaload, 1) := by decide +kernel
theorem dX0_settleFights_85 : decode cX0_settleFights 85 = .ok (.getfield 80, 3) := by decide +kernel
theorem dX0_settleFights_88 : decode cX0_settleFights 88 = .ok (.putfield 68, 3) := by decide +kernel
theorem dX0_settleFights_91 : decode cX0_settleFights 91 = .ok (.aload_n 0, 1) := by decide +kernel
theorem dX0_settleFights_92 : decode cX0_settleFights 92 = .ok (.getfield 27, 3) := by decide +kernel
theorem dX0_settleFights_95 : decode cX0_settleFights 95 = .ok (.iload_n 2, 1) := by decide +kernel
theorem dX0_settleFights_96 : decode cX0_settleFights 96 = .ok (.aaload, 1) := by decide +kernel
theorem dX0_settleFights_97 : decode cX0_settleFights 97 = .ok (.iconst (-1), 1) := by decide +kernel
theorem dX0_settleFights_98 : decode cX0_settleFights 98 = .ok (.putfield 83, 3) := by decide +kernel
theorem dX0_settleFights_101 : decode cX0_settleFights 101 = .ok (.iinc 2 1, 3) := by decide +kernel
theorem dX0_settleFights_104 : decode cX0_settleFights 104 = .ok (.goto (-60), 3) := by decide +kernel
theorem dX0_settleFights_107 : decode cX0_settleFights 107 = .ok (.return_, 1) := by decide +kernel
theorem dX0_losesFight_0 : decode cX0_losesFight 0 = .ok (.aload_n 0, 1) := by decide +kernel
theorem dX0_losesFight_1 : decode cX0_losesFight 1 = .ok (.getfield 27, 3) := by decide +kernel
theorem dX0_losesFight_4 : decode cX0_losesFight 4 = .ok (.iload_n 1, 1) := by decide +kernel
theorem dX0_losesFight_5 : decode cX0_losesFight 5 = .ok (.aaload, 1) := by decide +kernel
theorem dX0_losesFight_6 : decode cX0_losesFight 6 = .ok (.astore_n 2, 1) := by decide +kernel
theorem dX0_losesFight_7 : decode cX0_losesFight 7 = .ok (.iconst 0, 1) := by decide +kernel
theorem dX0_losesFight_8 : decode cX0_losesFight 8 = .ok (.istore_n 3, 1) := by decide +kernel
theorem dX0_losesFight_9 : decode cX0_losesFight 9 = .ok (.iload_n 3, 1) := by decide +kernel
theorem dX0_losesFight_10 : decode cX0_losesFight 10 = .ok (.aload_n 0, 1) := by decide +kernel
theorem dX0_losesFight_11 : decode cX0_losesFight 11 = .ok (.getfield 42, 3) := by decide +kernel
theorem dX0_losesFight_14 : decode cX0_losesFight 14 = .ok (.if_icmp .ge 73, 3) := by decide +kernel
theorem dX0_losesFight_17 : decode cX0_losesFight 17 = .ok (.aload_n 2, 1) := by decide +kernel
theorem dX0_losesFight_18 : decode cX0_losesFight 18 = .ok (.invokevirtual 121, 3) := by decide +kernel
theorem dX0_losesFight_21 : decode cX0_losesFight 21 = .ok (.ifCond .eq 66, 3) := by decide +kernel
theorem dX0_losesFight_24 : decode cX0_losesFight 24 = .ok (.aload_n 0, 1) := by decide +kernel
theorem dX0_losesFight_25 : decode cX0_losesFight 25 = .ok (.getfield 27, 3) := by decide +kernel
theorem dX0_losesFight_28 : decode cX0_losesFight 28 = .ok (.aload_n 0, 1) := by decide +kernel
theorem dX0_losesFight_29 : decode cX0_losesFight 29 = .ok (.getfield 31, 3) := by decide +kernel
theorem dX0_losesFight_32 : decode cX0_losesFight 32 = .ok (.iload_n 3, 1) := by decide +kernel
theorem dX0_losesFight_33 : decode cX0_losesFight 33 = .ok (.iaload, 1) := by decide +kernel
theorem dX0_losesFight_34 : decode cX0_losesFight 34 = .ok (.aaload, 1) := by decide +kernel
theorem dX0_losesFight_35 : decode cX0_losesFight 35 = .ok (.astore 4, 2) := by decide +kernel
theorem dX0_losesFight_37 : decode cX0_losesFight 37 = .ok (.aload_n 0, 1) := by decide +kernel
theorem dX0_losesFight_38 : decode cX0_losesFight 38 = .ok (.getfield 31, 3) := by decide +kernel
theorem dX0_losesFight_41 : decode cX0_losesFight 41 = .ok (.iload_n 3, 1) := by decide +kernel
theorem dX0_losesFight_42 : decode cX0_losesFight 42 = .ok (.iaload, 1) := by decide +kernel
theorem dX0_losesFight_43 : decode cX0_losesFight 43 = .ok (.iload_n 1, 1) := by decide +kernel
theorem dX0_losesFight_44 : decode cX0_losesFight 44 = .ok (.if_icmp .eq 37, 3) := by decide +kernel
theorem dX0_losesFight_47 : decode cX0_losesFight 47 = .ok (.aload 4, 2) := by decide +kernel
theorem dX0_losesFight_49 : decode cX0_losesFight 49 = .ok (.invokevirtual 121, 3) := by decide +kernel
theorem dX0_losesFight_52 : decode cX0_losesFight 52 = .ok (.ifCond .eq 29, 3) := by decide +kernel
theorem dX0_losesFight_55 : decode cX0_losesFight 55 = .ok (.aload 4, 2) := by decide +kernel
theorem dX0_losesFight_57 : decode cX0_losesFight 57 = .ok (.getfield 80, 3) := by decide +kernel
theorem dX0_losesFight_60 : decode cX0_losesFight 60 = .ok (.aload_n 2, 1) := by decide +kernel
theorem dX0_losesFight_61 : decode cX0_losesFight 61 = .ok (.getfield 80, 3) := by decide +kernel
theorem dX0_losesFight_64 : decode cX0_losesFight 64 = .ok (.if_icmp .ne 17, 3) := by decide +kernel
theorem dX0_losesFight_67 : decode cX0_losesFight 67 = .ok (.aload 4, 2) := by decide +kernel
theorem dX0_losesFight_69 : decode cX0_losesFight 69 = .ok (.getfield 74, 3) := by decide +kernel
theorem dX0_losesFight_72 : decode cX0_losesFight 72 = .ok (.aload_n 2, 1) := by decide +kernel
theorem dX0_losesFight_73 : decode cX0_losesFight 73 = .ok (.getfield 74, 3) := by decide +kernel
theorem dX0_losesFight_76 : decode cX0_losesFight 76 = .ok (.if_icmp .lt 5, 3) := by decide +kernel
theorem dX0_losesFight_79 : decode cX0_losesFight 79 = .ok (.iconst 1, 1) := by decide +kernel
theorem dX0_losesFight_80 : decode cX0_losesFight 80 = .ok (.ireturn, 1) := by decide +kernel
theorem dX0_losesFight_81 : decode cX0_losesFight 81 = .ok (.iinc 3 1, 3) := by decide +kernel
theorem dX0_losesFight_84 : decode cX0_losesFight 84 = .ok (.goto (-75), 3) := by decide +kernel
theorem dX0_losesFight_87 : decode cX0_losesFight 87 = .ok (.iconst 0, 1) := by decide +kernel
theorem dX0_losesFight_88 : decode cX0_losesFight 88 = .ok (.ireturn, 1) := by decide +kernel
theorem dX0_washAway_0 : decode cX0_washAway 0 = .ok (.iconst 0, 1) := by decide +kernel
theorem dX0_washAway_1 : decode cX0_washAway 1 = .ok (.istore_n 3, 1) := by decide +kernel
theorem dX0_washAway_2 : decode cX0_washAway 2 = .ok (.iload_n 3, 1) := by decide +kernel
theorem dX0_washAway_3 : decode cX0_washAway 3 = .ok (.aload_n 0, 1) := by decide +kernel
theorem dX0_washAway_4 : decode cX0_washAway 4 = .ok (.getfield 36, 3) := by decide +kernel
theorem dX0_washAway_7 : decode cX0_washAway 7 = .ok (.if_icmp .ge 37, 3) := by decide +kernel
theorem dX0_washAway_10 : decode cX0_washAway 10 = .ok (.aload_n 0, 1) := by decide +kernel
theorem dX0_washAway_11 : decode cX0_washAway 11 = .ok (.getfield 21, 3) := by decide +kernel
theorem dX0_washAway_14 : decode cX0_washAway 14 = .ok (.iload_n 3, 1) := by decide +kernel
theorem dX0_washAway_15 : decode cX0_washAway 15 = .ok (.aaload, 1) := by decide +kernel
theorem dX0_washAway_16 : decode cX0_washAway 16 = .ok (.getfield 68, 3) := by decide +kernel
theorem dX0_washAway_19 : decode cX0_washAway 19 = .ok (.iload_n 1, 1) := by decide +kernel
theorem dX0_washAway_20 : decode cX0_washAway 20 = .ok (.iload_n 2, 1) := by decide +kernel
theorem dX0_washAway_21 : decode cX0_washAway 21 = .ok (.invokestatic 86, 3) := by decide +kernel
theorem dX0_washAway_24 : decode cX0_washAway 24 = .ok (.ifCond .eq 14, 3) := by decide +kernel
theorem dX0_washAway_27 : decode cX0_washAway 27 = .ok (.aload_n 0, 1) := by decide +kernel
theorem dX0_washAway_28 : decode cX0_washAway 28 = .ok (.getfield 21, 3) := by decide +kernel
theorem dX0_washAway_31 : decode cX0_washAway 31 = .ok (.iload_n 3, 1) := by decide +kernel
theorem dX0_washAway_32 : decode cX0_washAway 32 = .ok (.aaload, 1) := by decide +kernel
theorem dX0_washAway_33 : decode cX0_washAway 33 = .ok (.bipush 30, 2) := by decide +kernel
theorem dX0_washAway_35 : decode cX0_washAway 35 = .ok (.putfield 68, 3) := by decide +kernel
theorem dX0_washAway_38 : decode cX0_washAway 38 = .ok (.iinc 3 1, 3) := by decide +kernel
theorem dX0_washAway_41 : decode cX0_washAway 41 = .ok (.goto (-39), 3) := by decide +kernel
theorem dX0_washAway_44 : decode cX0_washAway 44 = .ok (.return_, 1) := by decide +kernel
theorem dX0_comeGulls_0 : decode cX0_comeGulls 0 = .ok (.aload_n 0, 1) := by decide +kernel
theorem dX0_comeGulls_1 : decode cX0_comeGulls 1 = .ok (.getfield 9, 3) := by decide +kernel
theorem dX0_comeGulls_4 : decode cX0_comeGulls 4 = .ok (.ifCond .le 12, 3) := by decide +kernel
theorem dX0_comeGulls_7 : decode cX0_comeGulls 7 = .ok (.iload_n 1, 1) := by decide +kernel
theorem dX0_comeGulls_8 : decode cX0_comeGulls 8 = .ok (.aload_n 0, 1) := by decide +kernel
theorem dX0_comeGulls_9 : decode cX0_comeGulls 9 = .ok (.getfield 9, 3) := by decide +kernel
theorem dX0_comeGulls_12 : decode cX0_comeGulls 12 = .ok (.irem, 1) := by decide +kernel
theorem dX0_comeGulls_13 : decode cX0_comeGulls 13 = .ok (.goto 4, 3) := by decide +kernel
theorem dX0_comeGulls_16 : decode cX0_comeGulls 16 = .ok (.iconst 0, 1) := by decide +kernel
theorem dX0_comeGulls_17 : decode cX0_comeGulls 17 = .ok (.istore_n 2, 1) := by decide +kernel
theorem dX0_comeGulls_18 : decode cX0_comeGulls 18 = .ok (.aload_n 0, 1) := by decide +kernel
theorem dX0_comeGulls_19 : decode cX0_comeGulls 19 = .ok (.iload_n 2, 1) := by decide +kernel
theorem dX0_comeGulls_20 : decode cX0_comeGulls 20 = .ok (.iload_n 2, 1) := by decide +kernel
theorem dX0_comeGulls_21 : decode cX0_comeGulls 21 = .ok (.invokevirtual 117, 3) := by decide +kernel
theorem dX0_comeGulls_24 : decode cX0_comeGulls 24 = .ok (.return_, 1) := by decide +kernel
theorem dX0_stepsUntilSorted_0 : decode cX0_stepsUntilSorted 0 = .ok (.iconst 0, 1) := by decide +kernel
theorem dX0_stepsUntilSorted_1 : decode cX0_stepsUntilSorted 1 = .ok (.istore_n 2, 1) := by decide +kernel
theorem dX0_stepsUntilSorted_2 : decode cX0_stepsUntilSorted 2 = .ok (.iload_n 2, 1) := by decide +kernel
theorem dX0_stepsUntilSorted_3 : decode cX0_stepsUntilSorted 3 = .ok (.aload_n 0, 1) := by decide +kernel
theorem dX0_stepsUntilSorted_4 : decode cX0_stepsUntilSorted 4 = .ok (.getfield 36, 3) := by decide +kernel
theorem dX0_stepsUntilSorted_7 : decode cX0_stepsUntilSorted 7 = .ok (.if_icmp .ge 28, 3) := by decide +kernel
theorem dX0_stepsUntilSorted_10 : decode cX0_stepsUntilSorted 10 = .ok (.aload_n 0, 1) := by decide +kernel
theorem dX0_stepsUntilSorted_11 : decode cX0_stepsUntilSorted 11 = .ok (.getfield 21, 3) := by decide +kernel
theorem dX0_stepsUntilSorted_14 : decode cX0_stepsUntilSorted 14 = .ok (.iload_n 2, 1) := by decide +kernel
theorem dX0_stepsUntilSorted_15 : decode cX0_stepsUntilSorted 15 = .ok (.aaload, 1) := by decide +kernel
theorem dX0_stepsUntilSorted_16 : decode cX0_stepsUntilSorted 16 = .ok (.aload_n 0, 1) := by decide +kernel
theorem dX0_stepsUntilSorted_17 : decode cX0_stepsUntilSorted 17 = .ok (.aload_n 0, 1) := by decide +kernel
theorem dX0_stepsUntilSorted_18 : decode cX0_stepsUntilSorted 18 = .ok (.getfield 21, 3) := by decide +kernel
theorem dX0_stepsUntilSorted_21 : decode cX0_stepsUntilSorted 21 = .ok (.iload_n 2, 1) := by decide +kernel
theorem dX0_stepsUntilSorted_22 : decode cX0_stepsUntilSorted 22 = .ok (.aaload, 1) := by decide +kernel
theorem dX0_stepsUntilSorted_23 : decode cX0_stepsUntilSorted 23 = .ok (.invokevirtual 90, 3) := by decide +kernel
theorem dX0_stepsUntilSorted_26 : decode cX0_stepsUntilSorted 26 = .ok (.putfield 139, 3) := by decide +kernel
theorem dX0_stepsUntilSorted_29 : decode cX0_stepsUntilSorted 29 = .ok (.iinc 2 1, 3) := by decide +kernel
theorem dX0_stepsUntilSorted_32 : decode cX0_stepsUntilSorted 32 = .ok (.goto (-30), 3) := by decide +kernel
theorem dX0_stepsUntilSorted_35 : decode cX0_stepsUntilSorted 35 = .ok (.iconst 0, 1) := by decide +kernel
theorem dX0_stepsUntilSorted_36 : decode cX0_stepsUntilSorted 36 = .ok (.istore_n 2, 1) := by decide +kernel
theorem dX0_stepsUntilSorted_37 : decode cX0_stepsUntilSorted 37 = .ok (.iload_n 2, 1) := by decide +kernel
theorem dX0_stepsUntilSorted_38 : decode cX0_stepsUntilSorted 38 = .ok (.iload_n 1, 1) := by decide +kernel
theorem dX0_stepsUntilSorted_39 : decode cX0_stepsUntilSorted 39 = .ok (.if_icmp .gt 36, 3) := by decide +kernel
theorem dX0_stepsUntilSorted_42 : decode cX0_stepsUntilSorted 42 = .ok (.aload_n 0, 1) := by decide +kernel
theorem dX0_stepsUntilSorted_43 : decode cX0_stepsUntilSorted 43 = .ok (.invokevirtual 142, 3) := by decide +kernel
theorem dX0_stepsUntilSorted_46 : decode cX0_stepsUntilSorted 46 = .ok (.istore_n 3, 1) := by decide +kernel
theorem dX0_stepsUntilSorted_47 : decode cX0_stepsUntilSorted 47 = .ok (.iload_n 3, 1) := by decide +kernel
theorem dX0_stepsUntilSorted_48 : decode cX0_stepsUntilSorted 48 = .ok (.ifCond .ne 5, 3) := by decide +kernel
theorem dX0_stepsUntilSorted_51 : decode cX0_stepsUntilSorted 51 = .ok (.iload_n 2, 1) := by decide +kernel
theorem dX0_stepsUntilSorted_52 : decode cX0_stepsUntilSorted 52 = .ok (.ireturn, 1) := by decide +kernel
theorem dX0_stepsUntilSorted_53 : decode cX0_stepsUntilSorted 53 = .ok (.iload_n 3, 1) := by decide +kernel
theorem dX0_stepsUntilSorted_54 : decode cX0_stepsUntilSorted 54 = .ok (.ifCond .ge 6, 3) := by decide +kernel
theorem dX0_stepsUntilSorted_57 : decode cX0_stepsUntilSorted 57 = .ok (.bipush (-4), 2) := by decide +kernel
theorem dX0_stepsUntilSorted_59 : decode cX0_stepsUntilSorted 59 = .ok (.ireturn, 1) := by decide +kernel
theorem dX0_stepsUntilSorted_60 : decode cX0_stepsUntilSorted 60 = .ok (.iload_n 2, 1) := by decide +kernel
theorem dX0_stepsUntilSorted_61 : decode cX0_stepsUntilSorted 61 = .ok (.iload_n 1, 1) := by decide +kernel
theorem dX0_stepsUntilSorted_62 : decode cX0_stepsUntilSorted 62 = .ok (.if_icmp .ge 7, 3) := by decide +kernel
theorem dX0_stepsUntilSorted_65 : decode cX0_stepsUntilSorted 65 = .ok (.aload_n 0, 1) := by decide +kernel
theorem dX0_stepsUntilSorted_66 : decode cX0_stepsUntilSorted 66 = .ok (.invokevirtual 107, 3) := by decide +kernel
theorem dX0_stepsUntilSorted_69 : decode cX0_stepsUntilSorted 69 = .ok (.iinc 2 1, 3) := by decide +kernel
theorem dX0_stepsUntilSorted_72 : decode cX0_stepsUntilSorted 72 = .ok (.goto (-35), 3) := by decide +kernel
theorem dX0_stepsUntilSorted_75 : decode cX0_stepsUntilSorted 75 = .ok (.bipush (-4), 2) := by decide +kernel
theorem dX0_stepsUntilSorted_77 : decode cX0_stepsUntilSorted 77 = .ok (.ireturn, 1) := by decide +kernel
theorem dX0_openCoins_0 : decode cX0_openCoins 0 = .ok (.iconst 0, 1) := by decide +kernel
theorem dX0_openCoins_1 : decode cX0_openCoins 1 = .ok (.istore_n 1, 1) := by decide +kernel
theorem dX0_openCoins_2 : decode cX0_openCoins 2 = .ok (.iconst 0, 1) := by decide +kernel
theorem dX0_openCoins_3 : decode cX0_openCoins 3 = .ok (.istore_n 2, 1) := by decide +kernel
theorem dX0_openCoins_4 : decode cX0_openCoins 4 = .ok (.iload_n 2, 1) := by decide +kernel
theorem dX0_openCoins_5 : decode cX0_openCoins 5 = .ok (.aload_n 0, 1) := by decide +kernel
theorem dX0_openCoins_6 : decode cX0_openCoins 6 = .ok (.getfield 36, 3) := by decide +kernel
theorem dX0_openCoins_9 : decode cX0_openCoins 9 = .ok (.if_icmp .ge 52, 3) := by decide +kernel
theorem dX0_openCoins_12 : decode cX0_openCoins 12 = .ok (.aload_n 0, 1) := by decide +kernel
theorem dX0_openCoins_13 : decode cX0_openCoins 13 = .ok (.getfield 21, 3) := by decide +kernel
theorem dX0_openCoins_16 : decode cX0_openCoins 16 = .ok (.iload_n 2, 1) := by decide +kernel
theorem dX0_openCoins_17 : decode cX0_openCoins 17 = .ok (.aaload, 1) := by decide +kernel
theorem dX0_openCoins_18 : decode cX0_openCoins 18 = .ok (.astore_n 3, 1) := by decide +kernel
theorem dX0_openCoins_19 : decode cX0_openCoins 19 = .ok (.aload_n 3, 1) := by decide +kernel
theorem dX0_openCoins_20 : decode cX0_openCoins 20 = .ok (.getfield 139, 3) := by decide +kernel
theorem dX0_openCoins_23 : decode cX0_openCoins 23 = .ok (.iconst (-1), 1) := by decide +kernel
theorem dX0_openCoins_24 : decode cX0_openCoins 24 = .ok (.if_icmp .eq 31, 3) := by decide +kernel
theorem dX0_openCoins_27 : decode cX0_openCoins 27 = .ok (.aload_n 3, 1) := by decide +kernel
theorem dX0_openCoins_28 : decode cX0_openCoins 28 = .ok (.getfield 68, 3) := by decide +kernel
theorem dX0_openCoins_31 : decode cX0_openCoins 31 = .ok (.bipush 20, 2) := by decide +kernel
theorem dX0_openCoins_33 : decode cX0_openCoins 33 = .ok (.aload_n 3, 1) := by decide +kernel
theorem dX0_openCoins_34 : decode cX0_openCoins 34 = .ok (.getfield 139, 3) := by decide +kernel
theorem dX0_openCoins_37 : decode cX0_openCoins 37 = .ok (.iadd, 1) := by decide +kernel
theorem dX0_openCoins_38 : decode cX0_openCoins 38 = .ok (.if_icmp .eq 17, 3) := by decide +kernel
theorem dX0_openCoins_41 : decode cX0_openCoins 41 = .ok (.aload_n 3, 1) := by decide +kernel
theorem dX0_openCoins_42 : decode cX0_openCoins 42 = .ok (.getfield 68, 3) := by decide +kernel
theorem dX0_openCoins_45 : decode cX0_openCoins 45 = .ok (.bipush 20, 2) := by decide +kernel
theorem dX0_openCoins_47 : decode cX0_openCoins 47 = .ok (.if_icmp .lt 5, 3) := by decide +kernel
theorem dX0_openCoins_50 : decode cX0_openCoins 50 = .ok (.iconst (-1), 1) := by decide +kernel
theorem dX0_openCoins_51 : decode cX0_openCoins 51 = .ok (.ireturn, 1) := by decide +kernel
theorem dX0_openCoins_52 : decode cX0_openCoins 52 = .ok (.iinc 1 1, 3) := by decide +kernel
theorem dX0_openCoins_55 : decode cX0_openCoins 55 = .ok (.iinc 2 1, 3) := by decide +kernel
theorem dX0_openCoins_58 : decode cX0_openCoins 58 = .ok (.goto (-54), 3) := by decide +kernel
theorem dX0_openCoins_61 : decode cX0_openCoins 61 = .ok (.iload_n 1, 1) := by decide +kernel
theorem dX0_openCoins_62 : decode cX0_openCoins 62 = .ok (.ireturn, 1) := by decide +kernel
theorem dX1_init_0 : decode cX1_init 0 = .ok (.aload_n 0, 1) := by decide +kernel
theorem dX1_init_1 : decode cX1_init 1 = .ok (.invokespecial 1, 3) := by decide +kernel
theorem dX1_init_4 : decode cX1_init 4 = .ok (.return_, 1) := by decide +kernel
theorem dX1_copyFrom_0 : decode cX1_copyFrom 0 = .ok (.aload_n 0, 1) := by decide +kernel
theorem dX1_copyFrom_1 : decode cX1_copyFrom 1 = .ok (.aload_n 1, 1) := by decide +kernel
theorem dX1_copyFrom_2 : decode cX1_copyFrom 2 = .ok (.getfield 7, 3) := by decide +kernel
theorem dX1_copyFrom_5 : decode cX1_copyFrom 5 = .ok (.putfield 7, 3) := by decide +kernel
theorem dX1_copyFrom_8 : decode cX1_copyFrom 8 = .ok (.aload_n 0, 1) := by decide +kernel
theorem dX1_copyFrom_9 : decode cX1_copyFrom 9 = .ok (.aload_n 1, 1) := by decide +kernel
theorem dX1_copyFrom_10 : decode cX1_copyFrom 10 = .ok (.getfield 13, 3) := by decide +kernel
theorem dX1_copyFrom_13 : decode cX1_copyFrom 13 = .ok (.putfield 13, 3) := by decide +kernel
theorem dX1_copyFrom_16 : decode cX1_copyFrom 16 = .ok (.aload_n 0, 1) := by decide +kernel
theorem dX1_copyFrom_17 : decode cX1_copyFrom 17 = .ok (.aload_n 1, 1) := by decide +kernel
theorem dX1_copyFrom_18 : decode cX1_copyFrom 18 = .ok (.getfield 17, 3) := by decide +kernel
theorem dX1_copyFrom_21 : decode cX1_copyFrom 21 = .ok (.putfield 17, 3) := by decide +kernel
theorem dX1_copyFrom_24 : decode cX1_copyFrom 24 = .ok (.return_, 1) := by decide +kernel
theorem dX2_init_0 : decode cX2_init 0 = .ok (.aload_n 0, 1) := by decide +kernel
theorem dX2_init_1 : decode cX2_init 1 = .ok (.invokespecial 3, 3) := by decide +kernel
theorem dX2_init_4 : decode cX2_init 4 = .ok (.aload_n 0, 1) := by decide +kernel
theorem dX2_init_5 : decode cX2_init 5 = .ok (.iconst (-1), 1) := by decide +kernel
theorem dX2_init_6 : decode cX2_init 6 = .ok (.putfield 9, 3) := by decide +kernel
theorem dX2_init_9 : decode cX2_init 9 = .ok (.return_, 1) := by decide +kernel
theorem dX2_copyFrom_0 : decode cX2_copyFrom 0 = .ok (.aload_n 0, 1) := by decide +kernel
theorem dX2_copyFrom_1 : decode cX2_copyFrom 1 = .ok (.aload_n 1, 1) := by decide +kernel
theorem dX2_copyFrom_2 : decode cX2_copyFrom 2 = .ok (.getfield 15, 3) := by decide +kernel
theorem dX2_copyFrom_5 : decode cX2_copyFrom 5 = .ok (.putfield 15, 3) := by decide +kernel
theorem dX2_copyFrom_8 : decode cX2_copyFrom 8 = .ok (.aload_n 0, 1) := by decide +kernel
theorem dX2_copyFrom_9 : decode cX2_copyFrom 9 = .ok (.aload_n 1, 1) := by decide +kernel
theorem dX2_copyFrom_10 : decode cX2_copyFrom 10 = .ok (.getfield 18, 3) := by decide +kernel
theorem dX2_copyFrom_13 : decode cX2_copyFrom 13 = .ok (.putfield 18, 3) := by decide +kernel
theorem dX2_copyFrom_16 : decode cX2_copyFrom 16 = .ok (.aload_n 0, 1) := by decide +kernel
theorem dX2_copyFrom_17 : decode cX2_copyFrom 17 = .ok (.aload_n 1, 1) := by decide +kernel
theorem dX2_copyFrom_18 : decode cX2_copyFrom 18 = .ok (.getfield 21, 3) := by decide +kernel
theorem dX2_copyFrom_21 : decode cX2_copyFrom 21 = .ok (.putfield 21, 3) := by decide +kernel
theorem dX2_copyFrom_24 : decode cX2_copyFrom 24 = .ok (.aload_n 0, 1) := by decide +kernel
theorem dX2_copyFrom_25 : decode cX2_copyFrom 25 = .ok (.aload_n 1, 1) := by decide +kernel
theorem dX2_copyFrom_26 : decode cX2_copyFrom 26 = .ok (.getfield 24, 3) := by decide +kernel
theorem dX2_copyFrom_29 : decode cX2_copyFrom 29 = .ok (.putfield 24, 3) := by decide +kernel
theorem dX2_copyFrom_32 : decode cX2_copyFrom 32 = .ok (.aload_n 0, 1) := by decide +kernel
theorem dX2_copyFrom_33 : decode cX2_copyFrom 33 = .ok (.aload_n 1, 1) := by decide +kernel
theorem dX2_copyFrom_34 : decode cX2_copyFrom 34 = .ok (.getfield 9, 3) := by decide +kernel
theorem dX2_copyFrom_37 : decode cX2_copyFrom 37 = .ok (.putfield 9, 3) := by decide +kernel
theorem dX2_copyFrom_40 : decode cX2_copyFrom 40 = .ok (.return_, 1) := by decide +kernel
theorem dX2_holds_0 : decode cX2_holds 0 = .ok (.aload_n 0, 1) := by decide +kernel
theorem dX2_holds_1 : decode cX2_holds 1 = .ok (.getfield 9, 3) := by decide +kernel
theorem dX2_holds_4 : decode cX2_holds 4 = .ok (.iconst (-1), 1) := by decide +kernel
theorem dX2_holds_5 : decode cX2_holds 5 = .ok (.if_icmp .eq 7, 3) := by decide +kernel
theorem dX2_holds_8 : decode cX2_holds 8 = .ok (.iconst 1, 1) := by decide +kernel
theorem dX2_holds_9 : decode cX2_holds 9 = .ok (.goto 4, 3) := by decide +kernel
theorem dX2_holds_12 : decode cX2_holds 12 = .ok (.iconst 0, 1) := by decide +kernel
theorem dX2_holds_13 : decode cX2_holds 13 = .ok (.ireturn, 1) := by decide +kernel
theorem dX2_isFitBy_0 : decode cX2_isFitBy 0 = .ok (.aload_n 1, 1) := by decide +kernel
theorem dX2_isFitBy_1 : decode cX2_isFitBy 1 = .ok (.getfield 27, 3) := by decide +kernel
theorem dX2_isFitBy_4 : decode cX2_isFitBy 4 = .ok (.ifCond .ne 31, 3) := by decide +kernel
theorem dX2_isFitBy_7 : decode cX2_isFitBy 7 = .ok (.aload_n 1, 1) := by decide +kernel
theorem dX2_isFitBy_8 : decode cX2_isFitBy 8 = .ok (.getfield 33, 3) := by decide +kernel
theorem dX2_isFitBy_11 : decode cX2_isFitBy 11 = .ok (.aload_n 0, 1) := by decide +kernel
theorem dX2_isFitBy_12 : decode cX2_isFitBy 12 = .ok (.getfield 15, 3) := by decide +kernel
theorem dX2_isFitBy_15 : decode cX2_isFitBy 15 = .ok (.if_icmp .eq 16, 3) := by decide +kernel
theorem dX2_isFitBy_18 : decode cX2_isFitBy 18 = .ok (.aload_n 1, 1) := by decide +kernel
theorem dX2_isFitBy_19 : decode cX2_isFitBy 19 = .ok (.getfield 33, 3) := by decide +kernel
theorem dX2_isFitBy_22 : decode cX2_isFitBy 22 = .ok (.aload_n 0, 1) := by decide +kernel
theorem dX2_isFitBy_23 : decode cX2_isFitBy 23 = .ok (.getfield 15, 3) := by decide +kernel
theorem dX2_isFitBy_26 : decode cX2_isFitBy 26 = .ok (.iconst 1, 1) := by decide +kernel
theorem dX2_isFitBy_27 : decode cX2_isFitBy 27 = .ok (.isub, 1) := by decide +kernel
theorem dX2_isFitBy_28 : decode cX2_isFitBy 28 = .ok (.if_icmp .ne 7, 3) := by decide +kernel
theorem dX2_isFitBy_31 : decode cX2_isFitBy 31 = .ok (.iconst 1, 1) := by decide +kernel
theorem dX2_isFitBy_32 : decode cX2_isFitBy 32 = .ok (.goto 4, 3) := by decide +kernel
theorem dX2_isFitBy_35 : decode cX2_isFitBy 35 = .ok (.iconst 0, 1) := by decide +kernel
theorem dX2_isFitBy_36 : decode cX2_isFitBy 36 = .ok (.ireturn, 1) := by decide +kernel
theorem dX2_walk_0 : decode cX2_walk 0 = .ok (.aload_n 0, 1) := by decide +kernel
theorem dX2_walk_1 : decode cX2_walk 1 = .ok (.getfield 21, 3) := by decide +kernel
theorem dX2_walk_4 : decode cX2_walk 4 = .ok (.ifCond .ne 29, 3) := by decide +kernel
theorem dX2_walk_7 : decode cX2_walk 7 = .ok (.aload_n 0, 1) := by decide +kernel
theorem dX2_walk_8 : decode cX2_walk 8 = .ok (.aload_n 0, 1) := by decide +kernel
theorem dX2_walk_9 : decode cX2_walk 9 = .ok (.getfield 24, 3) := by decide +kernel
theorem dX2_walk_12 : decode cX2_walk 12 = .ok (.ifCond .ne 9, 3) := by decide +kernel
theorem dX2_walk_15 : decode cX2_walk 15 = .ok (.iload_n 1, 1) := by decide +kernel
theorem dX2_walk_16 : decode cX2_walk 16 = .ok (.iconst 1, 1) := by decide +kernel
theorem dX2_walk_17 : decode cX2_walk 17 = .ok (.isub, 1) := by decide +kernel
theorem dX2_walk_18 : decode cX2_walk 18 = .ok (.goto 9, 3) := by decide +kernel
theorem dX2_walk_21 : decode cX2_walk 21 = .ok (.aload_n 0, 1) := by decide +kernel
theorem dX2_walk_22 : decode cX2_walk 22 = .ok (.getfield 24, 3) := by decide +kernel
theorem dX2_walk_25 : decode cX2_walk 25 = .ok (.iconst 1, 1) := by decide +kernel
theorem dX2_walk_26 : decode cX2_walk 26 = .ok (.isub, 1) := by decide +kernel
theorem dX2_walk_27 : decode cX2_walk 27 = .ok (.putfield 24, 3) := by decide +kernel
theorem dX2_walk_30 : decode cX2_walk 30 = .ok (.goto 27, 3) := by decide +kernel
theorem dX2_walk_33 : decode cX2_walk 33 = .ok (.aload_n 0, 1) := by decide +kernel
theorem dX2_walk_34 : decode cX2_walk 34 = .ok (.aload_n 0, 1) := by decide +kernel
theorem dX2_walk_35 : decode cX2_walk 35 = .ok (.getfield 24, 3) := by decide +kernel
theorem dX2_walk_38 : decode cX2_walk 38 = .ok (.iconst 1, 1) := by decide +kernel
theorem dX2_walk_39 : decode cX2_walk 39 = .ok (.iadd, 1) := by decide +kernel
theorem dX2_walk_40 : decode cX2_walk 40 = .ok (.iload_n 1, 1) := by decide +kernel
theorem dX2_walk_41 : decode cX2_walk 41 = .ok (.if_icmp .ne 7, 3) := by decide +kernel
theorem dX2_walk_44 : decode cX2_walk 44 = .ok (.iconst 0, 1) := by decide +kernel
theorem dX2_walk_45 : decode cX2_walk 45 = .ok (.goto 9, 3) := by decide +kernel
theorem dX2_walk_48 : decode cX2_walk 48 = .ok (.aload_n 0, 1) := by decide +kernel
theorem dX2_walk_49 : decode cX2_walk 49 = .ok (.getfield 24, 3) := by decide +kernel
theorem dX2_walk_52 : decode cX2_walk 52 = .ok (.iconst 1, 1) := by decide +kernel
theorem dX2_walk_53 : decode cX2_walk 53 = .ok (.iadd, 1) := by decide +kernel
theorem dX2_walk_54 : decode cX2_walk 54 = .ok (.putfield 24, 3) := by decide +kernel
theorem dX2_walk_57 : decode cX2_walk 57 = .ok (.return_, 1) := by decide +kernel
theorem dX3_init_0 : decode cX3_init 0 = .ok (.aload_n 0, 1) := by decide +kernel
theorem dX3_init_1 : decode cX3_init 1 = .ok (.invokespecial 1, 3) := by decide +kernel
theorem dX3_init_4 : decode cX3_init 4 = .ok (.aload_n 0, 1) := by decide +kernel
theorem dX3_init_5 : decode cX3_init 5 = .ok (.new 7, 3) := by decide +kernel
theorem dX3_init_8 : decode cX3_init 8 = .ok (.dup, 1) := by decide +kernel
theorem dX3_init_9 : decode cX3_init 9 = .ok (.invokespecial 9, 3) := by decide +kernel
theorem dX3_init_12 : decode cX3_init 12 = .ok (.putfield 10, 3) := by decide +kernel
theorem dX3_init_15 : decode cX3_init 15 = .ok (.aload_n 0, 1) := by decide +kernel
theorem dX3_init_16 : decode cX3_init 16 = .ok (.new 16, 3) := by decide +kernel
theorem dX3_init_19 : decode cX3_init 19 = .ok (.dup, 1) := by decide +kernel
theorem dX3_init_20 : decode cX3_init 20 = .ok (.invokespecial 18, 3) := by decide +kernel
theorem dX3_init_23 : decode cX3_init 23 = .ok (.putfield 19, 3) := by decide +kernel
theorem dX3_init_26 : decode cX3_init 26 = .ok (.return_, 1) := by decide +kernel
theorem dX3_take_0 : decode cX3_take 0 = .ok (.aload_n 0, 1) := by decide +kernel
theorem dX3_take_1 : decode cX3_take 1 = .ok (.iconst 1, 1) := by decide +kernel
theorem dX3_take_2 : decode cX3_take 2 = .ok (.putfield 23, 3) := by decide +kernel
theorem dX3_take_5 : decode cX3_take 5 = .ok (.aload_n 0, 1) := by decide +kernel
theorem dX3_take_6 : decode cX3_take 6 = .ok (.getfield 10, 3) := by decide +kernel
theorem dX3_take_9 : decode cX3_take 9 = .ok (.aload_n 1, 1) := by decide +kernel
theorem dX3_take_10 : decode cX3_take 10 = .ok (.invokevirtual 27, 3) := by decide +kernel
theorem dX3_take_13 : decode cX3_take 13 = .ok (.aload_n 0, 1) := by decide +kernel
theorem dX3_take_14 : decode cX3_take 14 = .ok (.getfield 19, 3) := by decide +kernel
theorem dX3_take_17 : decode cX3_take 17 = .ok (.aload_n 2, 1) := by decide +kernel
theorem dX3_take_18 : decode cX3_take 18 = .ok (.invokevirtual 31, 3) := by decide +kernel
theorem dX3_take_21 : decode cX3_take 21 = .ok (.return_, 1) := by decide +kernel
theorem dX4_init_0 : decode cX4_init 0 = .ok (.aload_n 0, 1) := by decide +kernel
theorem dX4_init_1 : decode cX4_init 1 = .ok (.invokespecial 3, 3) := by decide +kernel
theorem dX4_init_4 : decode cX4_init 4 = .ok (.aload_n 0, 1) := by decide +kernel
theorem dX4_init_5 : decode cX4_init 5 = .ok (.iconst 4, 1) := by decide +kernel
theorem dX4_init_6 : decode cX4_init 6 = .ok (.newarray .int, 2) := by decide +kernel
theorem dX4_init_8 : decode cX4_init 8 = .ok (.putfield 9, 3) := by decide +kernel
theorem dX4_init_11 : decode cX4_init 11 = .ok (.aload_n 0, 1) := by decide +kernel
theorem dX4_init_12 : decode cX4_init 12 = .ok (.iconst 4, 1) := by decide +kernel
theorem dX4_init_13 : decode cX4_init 13 = .ok (.newarray .int, 2) := by decide +kernel
theorem dX4_init_15 : decode cX4_init 15 = .ok (.putfield 15, 3) := by decide +kernel
theorem dX4_init_18 : decode cX4_init 18 = .ok (.return_, 1) := by decide +kernel
