theorem dX10_readHole_0 : decode cX10_readHole 0 = .ok (.aload_n 0, 1) := by decide +kernel
theorem dX10_readHole_1 : decode cX10_readHole 1 = .ok (.invokevirtual 148, 3) := by decide +kernel
theorem dX10_readHole_4 : decode cX10_readHole 4 = .ok (.istore_n 1, 1) := by decide +kernel
theorem dX10_readHole_5 : decode cX10_readHole 5 = .ok (.aload_n 0, 1) := by decide +kernel
theorem dX10_readHole_6 : decode cX10_readHole 6 = .ok (.getfield 99, 3) := by decide +kernel
theorem dX10_readHole_9 : decode cX10_readHole 9 = .ok (.ifCond .ne 24, 3) := by decide +kernel
theorem dX10_readHole_12 : decode cX10_readHole 12 = .ok (.aload_n 0, 1) := by decide +kernel
theorem dX10_readHole_13 : decode cX10_readHole 13 = .ok (.aload_n 0, 1) := by decide +kernel
theorem dX10_readHole_14 : decode cX10_readHole 14 = .ok (.getfield 17, 3) := by decide +kernel
theorem dX10_readHole_17 : decode cX10_readHole 17 = .ok (.iconst 0, 1) := by decide +kernel
theorem dX10_readHole_18 : decode cX10_readHole 18 = .ok (.iload_n 1, 1) := by decide +kernel
theorem dX10_readHole_19 : decode cX10_readHole 19 = .ok (.iadd, 1) := by decide +kernel
theorem dX10_readHole_20 : decode cX10_readHole 20 = .ok (.iaload, 1) := by decide +kernel
theorem dX10_readHole_21 : decode cX10_readHole 21 = .ok (.ifCond .ne 7, 3) := by decide +kernel
theorem dX10_readHole_24 : decode cX10_readHole 24 = .ok (.iconst 1, 1) := by decide +kernel
theorem dX10_readHole_25 : decode cX10_readHole 25 = .ok (.goto 4, 3) := by decide +kernel
theorem dX10_readHole_28 : decode cX10_readHole 28 = .ok (.iconst 0, 1) := by decide +kernel
theorem dX10_readHole_29 : decode cX10_readHole 29 = .ok (.iconst 4, 1) := by decide +kernel
theorem dX10_readHole_30 : decode cX10_readHole 30 = .ok (.invokevirtual 137, 3) := by decide +kernel
theorem dX10_readHole_33 : decode cX10_readHole 33 = .ok (.aload_n 0, 1) := by decide +kernel
theorem dX10_readHole_34 : decode cX10_readHole 34 = .ok (.invokevirtual 145, 3) := by decide +kernel
theorem dX10_readHole_37 : decode cX10_readHole 37 = .ok (.aload_n 0, 1) := by decide +kernel
theorem dX10_readHole_38 : decode cX10_readHole 38 = .ok (.iconst 1, 1) := by decide +kernel
theorem dX10_readHole_39 : decode cX10_readHole 39 = .ok (.bipush 9, 2) := by decide +kernel
theorem dX10_readHole_41 : decode cX10_readHole 41 = .ok (.invokevirtual 152, 3) := by decide +kernel
theorem dX10_readHole_44 : decode cX10_readHole 44 = .ok (.istore_n 2, 1) := by decide +kernel
theorem dX10_readHole_45 : decode cX10_readHole 45 = .ok (.aload_n 0, 1) := by decide +kernel
theorem dX10_readHole_46 : decode cX10_readHole 46 = .ok (.getfield 17, 3) := by decide +kernel
theorem dX10_readHole_49 : decode cX10_readHole 49 = .ok (.iconst 0, 1) := by decide +kernel
theorem dX10_readHole_50 : decode cX10_readHole 50 = .ok (.iload_n 1, 1) := by decide +kernel
theorem dX10_readHole_51 : decode cX10_readHole 51 = .ok (.iadd, 1) := by decide +kernel
theorem dX10_readHole_52 : decode cX10_readHole 52 = .ok (.aload_n 0, 1) := by decide +kernel
theorem dX10_readHole_53 : decode cX10_readHole 53 = .ok (.getfield 99, 3) := by decide +kernel
theorem dX10_readHole_56 : decode cX10_readHole 56 = .ok (.ifCond .ne 7, 3) := by decide +kernel
theorem dX10_readHole_59 : decode cX10_readHole 59 = .ok (.iload_n 2, 1) := by decide +kernel
theorem dX10_readHole_60 : decode cX10_readHole 60 = .ok (.goto 11, 3) := by decide +kernel
theorem dX10_readHole_63 : decode cX10_readHole 63 = .ok (.aload_n 0, 1) := by decide +kernel
theorem dX10_readHole_64 : decode cX10_readHole 64 = .ok (.getfield 17, 3) := by decide +kernel
theorem dX10_readHole_67 : decode cX10_readHole 67 = .ok (.iconst 0, 1) := by decide +kernel
theorem dX10_readHole_68 : decode cX10_readHole 68 = .ok (.iload_n 1, 1) := by decide +kernel
theorem dX10_readHole_69 : decode cX10_readHole 69 = .ok (.iadd, 1) := by decide +kernel
theorem dX10_readHole_70 : decode cX10_readHole 70 = .ok (.iaload, 1) := by decide +kernel
theorem dX10_readHole_71 : decode cX10_readHole 71 = .ok (.iastore, 1) := by decide +kernel
theorem dX10_readHole_72 : decode cX10_readHole 72 = .ok (.return_, 1) := by decide +kernel
theorem dX10_readCoin_0 : decode cX10_readCoin 0 = .ok (.aload_n 0, 1) := by decide +kernel
theorem dX10_readCoin_1 : decode cX10_readCoin 1 = .ok (.getfield 17, 3) := by decide +kernel
theorem dX10_readCoin_4 : decode cX10_readCoin 4 = .ok (.bipush 8, 2) := by decide +kernel
theorem dX10_readCoin_6 : decode cX10_readCoin 6 = .ok (.iaload, 1) := by decide +kernel
theorem dX10_readCoin_7 : decode cX10_readCoin 7 = .ok (.istore_n 1, 1) := by decide +kernel
theorem dX10_readCoin_8 : decode cX10_readCoin 8 = .ok (.aload_n 0, 1) := by decide +kernel
theorem dX10_readCoin_9 : decode cX10_readCoin 9 = .ok (.getfield 17, 3) := by decide +kernel
theorem dX10_readCoin_12 : decode cX10_readCoin 12 = .ok (.bipush 9, 2) := by decide +kernel
theorem dX10_readCoin_14 : decode cX10_readCoin 14 = .ok (.iload_n 1, 1) := by decide +kernel
theorem dX10_readCoin_15 : decode cX10_readCoin 15 = .ok (.iadd, 1) := by decide +kernel
theorem dX10_readCoin_16 : decode cX10_readCoin 16 = .ok (.aload_n 0, 1) := by decide +kernel
theorem dX10_readCoin_17 : decode cX10_readCoin 17 = .ok (.iconst 1, 1) := by decide +kernel
theorem dX10_readCoin_18 : decode cX10_readCoin 18 = .ok (.bipush 9, 2) := by decide +kernel
theorem dX10_readCoin_20 : decode cX10_readCoin 20 = .ok (.invokevirtual 152, 3) := by decide +kernel
theorem dX10_readCoin_23 : decode cX10_readCoin 23 = .ok (.iastore, 1) := by decide +kernel
theorem dX10_readCoin_24 : decode cX10_readCoin 24 = .ok (.aload_n 0, 1) := by decide +kernel
theorem dX10_readCoin_25 : decode cX10_readCoin 25 = .ok (.getfield 17, 3) := by decide +kernel
theorem dX10_readCoin_28 : decode cX10_readCoin 28 = .ok (.bipush 21, 2) := by decide +kernel
theorem dX10_readCoin_30 : decode cX10_readCoin 30 = .ok (.iload_n 1, 1) := by decide +kernel
theorem dX10_readCoin_31 : decode cX10_readCoin 31 = .ok (.iadd, 1) := by decide +kernel
theorem dX10_readCoin_32 : decode cX10_readCoin 32 = .ok (.aload_n 0, 1) := by decide +kernel
theorem dX10_readCoin_33 : decode cX10_readCoin 33 = .ok (.invokevirtual 155, 3) := by decide +kernel
theorem dX10_readCoin_36 : decode cX10_readCoin 36 = .ok (.iastore, 1) := by decide +kernel
theorem dX10_readCoin_37 : decode cX10_readCoin 37 = .ok (.aload_n 0, 1) := by decide +kernel
theorem dX10_readCoin_38 : decode cX10_readCoin 38 = .ok (.getfield 99, 3) := by decide +kernel
theorem dX10_readCoin_41 : decode cX10_readCoin 41 = .ok (.ifCond .ne 61, 3) := by decide +kernel
theorem dX10_readCoin_44 : decode cX10_readCoin 44 = .ok (.aload_n 0, 1) := by decide +kernel
theorem dX10_readCoin_45 : decode cX10_readCoin 45 = .ok (.getfield 123, 3) := by decide +kernel
theorem dX10_readCoin_48 : decode cX10_readCoin 48 = .ok (.iconst 1, 1) := by decide +kernel
theorem dX10_readCoin_49 : decode cX10_readCoin 49 = .ok (.if_icmp .ne 53, 3) := by decide +kernel
theorem dX10_readCoin_52 : decode cX10_readCoin 52 = .ok (.aload_n 0, 1) := by decide +kernel
theorem dX10_readCoin_53 : decode cX10_readCoin 53 = .ok (.aload_n 0, 1) := by decide +kernel
theorem dX10_readCoin_54 : decode cX10_readCoin 54 = .ok (.iconst 5, 1) := by decide +kernel
theorem dX10_readCoin_55 : decode cX10_readCoin 55 = .ok (.bipush 102, 2) := by decide +kernel
theorem dX10_readCoin_57 : decode cX10_readCoin 57 = .ok (.bipush 97, 2) := by decide +kernel
theorem dX10_readCoin_59 : decode cX10_readCoin 59 = .ok (.bipush 108, 2) := by decide +kernel
theorem dX10_readCoin_61 : decode cX10_readCoin 61 = .ok (.invokevirtual 115, 3) := by decide +kernel
theorem dX10_readCoin_64 : decode cX10_readCoin 64 = .ok (.ifCond .eq 19, 3) := by decide +kernel
theorem dX10_readCoin_67 : decode cX10_readCoin 67 = .ok (.aload_n 0, 1) := by decide +kernel
theorem dX10_readCoin_68 : decode cX10_readCoin 68 = .ok (.bipush 115, 2) := by decide +kernel
theorem dX10_readCoin_70 : decode cX10_readCoin 70 = .ok (.bipush 101, 2) := by decide +kernel
theorem dX10_readCoin_72 : decode cX10_readCoin 72 = .ok (.iconst 0, 1) := by decide +kernel
theorem dX10_readCoin_73 : decode cX10_readCoin 73 = .ok (.invokevirtual 119, 3) := by decide +kernel
theorem dX10_readCoin_76 : decode cX10_readCoin 76 = .ok (.ifCond .eq 7, 3) := by decide +kernel
theorem dX10_readCoin_79 : decode cX10_readCoin 79 = .ok (.iconst 1, 1) := by decide +kernel
theorem dX10_readCoin_80 : decode cX10_readCoin 80 = .ok (.goto 4, 3) := by decide +kernel
theorem dX10_readCoin_83 : decode cX10_readCoin 83 = .ok (.iconst 0, 1) := by decide +kernel
theorem dX10_readCoin_84 : decode cX10_readCoin 84 = .ok (.iconst 2, 1) := by decide +kernel
theorem dX10_readCoin_85 : decode cX10_readCoin 85 = .ok (.invokevirtual 137, 3) := by decide +kernel
theorem dX10_readCoin_88 : decode cX10_readCoin 88 = .ok (.aload_n 0, 1) := by decide +kernel
theorem dX10_readCoin_89 : decode cX10_readCoin 89 = .ok (.getfield 17, 3) := by decide +kernel
theorem dX10_readCoin_92 : decode cX10_readCoin 92 = .ok (.bipush 15, 2) := by decide +kernel
theorem dX10_readCoin_94 : decode cX10_readCoin 94 = .ok (.iload_n 1, 1) := by decide +kernel
theorem dX10_readCoin_95 : decode cX10_readCoin 95 = .ok (.iadd, 1) := by decide +kernel
theorem dX10_readCoin_96 : decode cX10_readCoin 96 = .ok (.iconst 1, 1) := by decide +kernel
theorem dX10_readCoin_97 : decode cX10_readCoin 97 = .ok (.iastore, 1) := by decide +kernel
theorem dX10_readCoin_98 : decode cX10_readCoin 98 = .ok (.aload_n 0, 1) := by decide +kernel
theorem dX10_readCoin_99 : decode cX10_readCoin 99 = .ok (.invokevirtual 145, 3) := by decide +kernel
theorem dX10_readCoin_102 : decode cX10_readCoin 102 = .ok (.aload_n 0, 1) := by decide +kernel
theorem dX10_readCoin_103 : decode cX10_readCoin 103 = .ok (.getfield 17, 3) := by decide +kernel
theorem dX10_readCoin_106 : decode cX10_readCoin 106 = .ok (.bipush 8, 2) := by decide +kernel
theorem dX10_readCoin_108 : decode cX10_readCoin 108 = .ok (.dup2, 1) := by decide +kernel
theorem dX10_readCoin_109 : decode cX10_readCoin 109 = .ok (.iaload, 1) := by decide +kernel
theorem dX10_readCoin_110 : decode cX10_readCoin 110 = .ok (.iconst 1, 1) := by decide +kernel
theorem dX10_readCoin_111 : decode cX10_readCoin 111 = .ok (.iadd, 1) := by decide +kernel
theorem dX10_readCoin_112 : decode cX10_readCoin 112 = .ok (.iastore, 1) := by decide +kernel
theorem dX10_readCoin_113 : decode cX10_readCoin 113 = .ok (.return_, 1) := by decide +kernel
theorem dX10_readCrab_0 : decode cX10_readCrab 0 = .ok (.aload_n 0, 1) := by decide +kernel
theorem dX10_readCrab_1 : decode cX10_readCrab 1 = .ok (.getfield 123, 3) := by decide +kernel
theorem dX10_readCrab_4 : decode cX10_readCrab 4 = .ok (.iconst 1, 1) := by decide +kernel
theorem dX10_readCrab_5 : decode cX10_readCrab 5 = .ok (.if_icmp .ne 32, 3) := by decide +kernel
theorem dX10_readCrab_8 : decode cX10_readCrab 8 = .ok (.aload_n 0, 1) := by decide +kernel
theorem dX10_readCrab_9 : decode cX10_readCrab 9 = .ok (.iconst 4, 1) := by decide +kernel
theorem dX10_readCrab_10 : decode cX10_readCrab 10 = .ok (.bipush 108, 2) := by decide +kernel
theorem dX10_readCrab_12 : decode cX10_readCrab 12 = .ok (.bipush 101, 2) := by decide +kernel
theorem dX10_readCrab_14 : decode cX10_readCrab 14 = .ok (.bipush 102, 2) := by decide +kernel
theorem dX10_readCrab_16 : decode cX10_readCrab 16 = .ok (.invokevirtual 115, 3) := by decide +kernel
theorem dX10_readCrab_19 : decode cX10_readCrab 19 = .ok (.ifCond .eq 18, 3) := by decide +kernel
theorem dX10_readCrab_22 : decode cX10_readCrab 22 = .ok (.aload_n 0, 1) := by decide +kernel
theorem dX10_readCrab_23 : decode cX10_readCrab 23 = .ok (.bipush 116, 2) := by decide +kernel
theorem dX10_readCrab_25 : decode cX10_readCrab 25 = .ok (.iconst 0, 1) := by decide +kernel
theorem dX10_readCrab_26 : decode cX10_readCrab 26 = .ok (.iconst 0, 1) := by decide +kernel
theorem dX10_readCrab_27 : decode cX10_readCrab 27 = .ok (.invokevirtual 119, 3) := by decide +kernel
theorem dX10_readCrab_30 : decode cX10_readCrab 30 = .ok (.ifCond .eq 7, 3) := by decide +kernel
theorem dX10_readCrab_33 : decode cX10_readCrab 33 = .ok (.iconst 1, 1) := by decide +kernel
theorem dX10_readCrab_34 : decode cX10_readCrab 34 = .ok (.goto 4, 3) := by decide +kernel
theorem dX10_readCrab_37 : decode cX10_readCrab 37 = .ok (.iconst 0, 1) := by decide +kernel
theorem dX10_readCrab_38 : decode cX10_readCrab 38 = .ok (.istore_n 1, 1) := by decide +kernel
theorem dX10_readCrab_39 : decode cX10_readCrab 39 = .ok (.aload_n 0, 1) := by decide +kernel
theorem dX10_readCrab_40 : decode cX10_readCrab 40 = .ok (.getfield 123, 3) := by decide +kernel
theorem dX10_readCrab_43 : decode cX10_readCrab 43 = .ok (.iconst 1, 1) := by decide +kernel
theorem dX10_readCrab_44 : decode cX10_readCrab 44 = .ok (.if_icmp .ne 33, 3) := by decide +kernel
theorem dX10_readCrab_47 : decode cX10_readCrab 47 = .ok (.aload_n 0, 1) := by decide +kernel
theorem dX10_readCrab_48 : decode cX10_readCrab 48 = .ok (.iconst 5, 1) := by decide +kernel
theorem dX10_readCrab_49 : decode cX10_readCrab 49 = .ok (.bipush 114, 2) := by decide +kernel
theorem dX10_readCrab_51 : decode cX10_readCrab 51 = .ok (.bipush 105, 2) := by decide +kernel
theorem dX10_readCrab_53 : decode cX10_readCrab 53 = .ok (.bipush 103, 2) := by decide +kernel
theorem dX10_readCrab_55 : decode cX10_readCrab 55 = .ok (.invokevirtual 115, 3) := by decide +kernel
theorem dX10_readCrab_58 : decode cX10_readCrab 58 = .ok (.ifCond .eq 19, 3) := by decide +kernel
theorem dX10_readCrab_61 : decode cX10_readCrab 61 = .ok (.aload_n 0, 1) := by decide +kernel
theorem dX10_readCrab_62 : decode cX10_readCrab 62 = .ok (.bipush 104, 2) := by decide +kernel
theorem dX10_readCrab_64 : decode cX10_readCrab 64 = .ok (.bipush 116, 2) := by decide +kernel
theorem dX10_readCrab_66 : decode cX10_readCrab 66 = .ok (.iconst 0, 1) := by decide +kernel
theorem dX10_readCrab_67 : decode cX10_readCrab 67 = .ok (.invokevirtual 119, 3) := by decide +kernel
theorem dX10_readCrab_70 : decode cX10_readCrab 70 = .ok (.ifCond .eq 7, 3) := by decide +kernel
theorem dX10_readCrab_73 : decode cX10_readCrab 73 = .ok (.iconst 1, 1) := by decide +kernel
theorem dX10_readCrab_74 : decode cX10_readCrab 74 = .ok (.goto 4, 3) := by decide +kernel
theorem dX10_readCrab_77 : decode cX10_readCrab 77 = .ok (.iconst 0, 1) := by decide +kernel
theorem dX10_readCrab_78 : decode cX10_readCrab 78 = .ok (.istore_n 2, 1) := by decide +kernel
theorem dX10_readCrab_79 : decode cX10_readCrab 79 = .ok (.aload_n 0, 1) := by decide +kernel
theorem dX10_readCrab_80 : decode cX10_readCrab 80 = .ok (.getfield 99, 3) := by decide +kernel
theorem dX10_readCrab_83 : decode cX10_readCrab 83 = .ok (.ifCond .ne 21, 3) := by decide +kernel
theorem dX10_readCrab_86 : decode cX10_readCrab 86 = .ok (.aload_n 0, 1) := by decide +kernel
theorem dX10_readCrab_87 : decode cX10_readCrab 87 = .ok (.iload_n 1, 1) := by decide +kernel
theorem dX10_readCrab_88 : decode cX10_readCrab 88 = .ok (.ifCond .ne 7, 3) := by decide +kernel
theorem dX10_readCrab_91 : decode cX10_readCrab 91 = .ok (.iload_n 2, 1) := by decide +kernel
theorem dX10_readCrab_92 : decode cX10_readCrab 92 = .ok (.ifCond .eq 7, 3) := by decide +kernel
theorem dX10_readCrab_95 : decode cX10_readCrab 95 = .ok (.iconst 1, 1) := by decide +kernel
theorem dX10_readCrab_96 : decode cX10_readCrab 96 = .ok (.goto 4, 3) := by decide +kernel
theorem dX10_readCrab_99 : decode cX10_readCrab 99 = .ok (.iconst 0, 1) := by decide +kernel
theorem dX10_readCrab_100 : decode cX10_readCrab 100 = .ok (.iconst 2, 1) := by decide +kernel
theorem dX10_readCrab_101 : decode cX10_readCrab 101 = .ok (.invokevirtual 137, 3) := by decide +kernel
theorem dX10_readCrab_104 : decode cX10_readCrab 104 = .ok (.aload_n 0, 1) := by decide +kernel
theorem dX10_readCrab_105 : decode cX10_readCrab 105 = .ok (.invokevirtual 145, 3) := by decide +kernel
theorem dX10_readCrab_108 : decode cX10_readCrab 108 = .ok (.aload_n 0, 1) := by decide +kernel
theorem dX10_readCrab_109 : decode cX10_readCrab 109 = .ok (.getfield 17, 3) := by decide +kernel
theorem dX10_readCrab_112 : decode cX10_readCrab 112 = .ok (.bipush 35, 2) := by decide +kernel
theorem dX10_readCrab_114 : decode cX10_readCrab 114 = .ok (.aload_n 0, 1) := by decide +kernel
theorem dX10_readCrab_115 : decode cX10_readCrab 115 = .ok (.getfield 75, 3) := by decide +kernel
theorem dX10_readCrab_118 : decode cX10_readCrab 118 = .ok (.iadd, 1) := by decide +kernel
theorem dX10_readCrab_119 : decode cX10_readCrab 119 = .ok (.iload_n 2, 1) := by decide +kernel
theorem dX10_readCrab_120 : decode cX10_readCrab 120 = .ok (.invokestatic 158, 3) := by decide +kernel
theorem dX10_readCrab_123 : decode cX10_readCrab 123 = .ok (.iastore, 1) := by decide +kernel
theorem dX10_readCrab_124 : decode cX10_readCrab 124 = .ok (.aload_n 0, 1) := by decide +kernel
theorem dX10_readCrab_125 : decode cX10_readCrab 125 = .ok (.getfield 17, 3) := by decide +kernel
theorem dX10_readCrab_128 : decode cX10_readCrab 128 = .ok (.bipush 27, 2) := by decide +kernel
theorem dX10_readCrab_130 : decode cX10_readCrab 130 = .ok (.aload_n 0, 1) := by decide +kernel
theorem dX10_readCrab_131 : decode cX10_readCrab 131 = .ok (.getfield 75, 3) := by decide +kernel
theorem dX10_readCrab_134 : decode cX10_readCrab 134 = .ok (.iadd, 1) := by decide +kernel
theorem dX10_readCrab_135 : decode cX10_readCrab 135 = .ok (.aload_n 0, 1) := by decide +kernel
theorem dX10_readCrab_136 : decode cX10_readCrab 136 = .ok (.iconst 1, 1) := by decide +kernel
theorem dX10_readCrab_137 : decode cX10_readCrab 137 = .ok (.bipush 9, 2) := by decide +kernel
theorem dX10_readCrab_139 : decode cX10_readCrab 139 = .ok (.invokevirtual 152, 3) := by decide +kernel
theorem dX10_readCrab_142 : decode cX10_readCrab 142 = .ok (.iastore, 1) := by decide +kernel
theorem dX10_readCrab_143 : decode cX10_readCrab 143 = .ok (.aload_n 0, 1) := by decide +kernel
theorem dX10_readCrab_144 : decode cX10_readCrab 144 = .ok (.getfield 17, 3) := by decide +kernel
theorem dX10_readCrab_147 : decode cX10_readCrab 147 = .ok (.bipush 31, 2) := by decide +kernel
theorem dX10_readCrab_149 : decode cX10_readCrab 149 = .ok (.aload_n 0, 1) := by decide +kernel
theorem dX10_readCrab_150 : decode cX10_readCrab 150 = .ok (.getfield 75, 3) := by decide +kernel
theorem dX10_readCrab_153 : decode cX10_readCrab 153 = .ok (.iadd, 1) := by decide +kernel
theorem dX10_readCrab_154 : decode cX10_readCrab 154 = .ok (.aload_n 0, 1) := by decide +kernel
theorem dX10_readCrab_155 : decode cX10_readCrab 155 = .ok (.iconst 1, 1) := by decide +kernel
theorem dX10_readCrab_156 : decode cX10_readCrab 156 = .ok (.bipush 9, 2) := by decide +kernel
theorem dX10_readCrab_158 : decode cX10_readCrab 158 = .ok (.invokevirtual 152, 3) := by decide +kernel
theorem dX10_readCrab_161 : decode cX10_readCrab 161 = .ok (.iastore, 1) := by decide +kernel
theorem dX10_readCrab_162 : decode cX10_readCrab 162 = .ok (.aload_n 0, 1) := by decide +kernel
theorem dX10_readCrab_163 : decode cX10_readCrab 163 = .ok (.getfield 17, 3) := by decide +kernel
theorem dX10_readCrab_166 : decode cX10_readCrab 166 = .ok (.bipush 39, 2) := by decide +kernel
theorem dX10_readCrab_168 : decode cX10_readCrab 168 = .ok (.aload_n 0, 1) := by decide +kernel
theorem dX10_readCrab_169 : decode cX10_readCrab 169 = .ok (.getfield 75, 3) := by decide +kernel
theorem dX10_readCrab_172 : decode cX10_readCrab 172 = .ok (.iadd, 1) := by decide +kernel
theorem dX10_readCrab_173 : decode cX10_readCrab 173 = .ok (.aload_n 0, 1) := by decide +kernel
theorem dX10_readCrab_174 : decode cX10_readCrab 174 = .ok (.invokevirtual 155, 3) := by decide +kernel
theorem dX10_readCrab_177 : decode cX10_readCrab 177 = .ok (.iastore, 1) := by decide +kernel
theorem dX10_readCrab_178 : decode cX10_readCrab 178 = .ok (.aload_n 0, 1) := by decide +kernel
theorem dX10_readCrab_179 : decode cX10_readCrab 179 = .ok (.dup, 1) := by decide +kernel
theorem dX10_readCrab_180 : decode cX10_readCrab 180 = .ok (.getfield 75, 3) := by decide +kernel
theorem dX10_readCrab_183 : decode cX10_readCrab 183 = .ok (.iconst 1, 1) := by decide +kernel
theorem dX10_readCrab_184 : decode cX10_readCrab 184 = .ok (.iadd, 1) := by decide +kernel
theorem dX10_readCrab_185 : decode cX10_readCrab 185 = .ok (.putfield 75, 3) := by decide +kernel
theorem dX10_readCrab_188 : decode cX10_readCrab 188 = .ok (.return_, 1) := by decide +kernel
theorem dX10_readLineOf_0 : decode cX10_readLineOf 0 = .ok (.iload_n 1, 1) := by decide +kernel
theorem dX10_readLineOf_1 : decode cX10_readLineOf 1 = .ok (.tableswitch 90 0 3 #[31, 45, 76, 83], 31) := by decide +kernel
theorem dX10_readLineOf_32 : decode cX10_readLineOf 32 = .ok (.aload_n 0, 1) := by decide +kernel
theorem dX10_readLineOf_33 : decode cX10_readLineOf 33 = .ok (.aload_n 0, 1) := by decide +kernel
theorem dX10_readLineOf_34 : decode cX10_readLineOf 34 = .ok (.iconst 2, 1) := by decide +kernel
theorem dX10_readLineOf_35 : decode cX10_readLineOf 35 = .ok (.bipush 8, 2) := by decide +kernel
theorem dX10_readLineOf_37 : decode cX10_readLineOf 37 = .ok (.invokevirtual 152, 3) := by decide +kernel
theorem dX10_readLineOf_40 : decode cX10_readLineOf 40 = .ok (.putfield 71, 3) := by decide +kernel
theorem dX10_readLineOf_43 : decode cX10_readLineOf 43 = .ok (.goto 52, 3) := by decide +kernel
theorem dX10_readLineOf_46 : decode cX10_readLineOf 46 = .ok (.aload_n 0, 1) := by decide +kernel
theorem dX10_readLineOf_47 : decode cX10_readLineOf 47 = .ok (.getfield 17, 3) := by decide +kernel
theorem dX10_readLineOf_50 : decode cX10_readLineOf 50 = .ok (.bipush 43, 2) := by decide +kernel
theorem dX10_readLineOf_52 : decode cX10_readLineOf 52 = .ok (.aload_n 0, 1) := by decide +kernel
theorem dX10_readLineOf_53 : decode cX10_readLineOf 53 = .ok (.iconst 1, 1) := by decide +kernel
theorem dX10_readLineOf_54 : decode cX10_readLineOf 54 = .ok (.bipush 9, 2) := by decide +kernel
theorem dX10_readLineOf_56 : decode cX10_readLineOf 56 = .ok (.invokevirtual 152, 3) := by decide +kernel
theorem dX10_readLineOf_59 : decode cX10_readLineOf 59 = .ok (.iastore, 1) := by decide +kernel
theorem dX10_readLineOf_60 : decode cX10_readLineOf 60 = .ok (.aload_n 0, 1) := by decide +kernel
theorem dX10_readLineOf_61 : decode cX10_readLineOf 61 = .ok (.getfield 17, 3) := by decide +kernel
theorem dX10_readLineOf_64 : decode cX10_readLineOf 64 = .ok (.bipush 44, 2) := by decide +kernel
theorem dX10_readLineOf_66 : decode cX10_readLineOf 66 = .ok (.aload_n 0, 1) := by decide +kernel
theorem dX10_readLineOf_67 : decode cX10_readLineOf 67 = .ok (.iconst 0, 1) := by decide +kernel
theorem dX10_readLineOf_68 : decode cX10_readLineOf 68 = .ok (.bipush 8, 2) := by decide +kernel
theorem dX10_readLineOf_70 : decode cX10_readLineOf 70 = .ok (.invokevirtual 152, 3) := by decide +kernel
theorem dX10_readLineOf_73 : decode cX10_readLineOf 73 = .ok (.iastore, 1) := by decide +kernel
theorem dX10_readLineOf_74 : decode cX10_readLineOf 74 = .ok (.goto 21, 3) := by decide +kernel
theorem dX10_readLineOf_77 : decode cX10_readLineOf 77 = .ok (.aload_n 0, 1) := by decide +kernel
theorem dX10_readLineOf_78 : decode cX10_readLineOf 78 = .ok (.invokevirtual 162, 3) := by decide +kernel
theorem dX10_readLineOf_81 : decode cX10_readLineOf 81 = .ok (.goto 14, 3) := by decide +kernel
theorem dX10_readLineOf_84 : decode cX10_readLineOf 84 = .ok (.aload_n 0, 1) := by decide +kernel
theorem dX10_readLineOf_85 : decode cX10_readLineOf 85 = .ok (.invokevirtual 165, 3) := by decide +kernel
theorem dX10_readLineOf_88 : decode cX10_readLineOf 88 = .ok (.goto 7, 3) := by decide +kernel
theorem dX10_readLineOf_91 : decode cX10_readLineOf 91 = .ok (.aload_n 0, 1) := by decide +kernel
theorem dX10_readLineOf_92 : decode cX10_readLineOf 92 = .ok (.invokevirtual 168, 3) := by decide +kernel
theorem dX10_readLineOf_95 : decode cX10_readLineOf 95 = .ok (.return_, 1) := by decide +kernel
theorem dX10_readLine_0 : decode cX10_readLine 0 = .ok (.aload_n 0, 1) := by decide +kernel
theorem dX10_readLine_1 : decode cX10_readLine 1 = .ok (.getfield 123, 3) := by decide +kernel
theorem dX10_readLine_4 : decode cX10_readLine 4 = .ok (.iconst 1, 1) := by decide +kernel
theorem dX10_readLine_5 : decode cX10_readLine 5 = .ok (.if_icmp .ne 10, 3) := by decide +kernel
theorem dX10_readLine_8 : decode cX10_readLine 8 = .ok (.aload_n 0, 1) := by decide +kernel
theorem dX10_readLine_9 : decode cX10_readLine 9 = .ok (.invokevirtual 171, 3) := by decide +kernel
theorem dX10_readLine_12 : decode cX10_readLine 12 = .ok (.goto 5, 3) := by decide +kernel
theorem dX10_readLine_15 : decode cX10_readLine 15 = .ok (.bipush (-4), 2) := by decide +kernel
theorem dX10_readLine_17 : decode cX10_readLine 17 = .ok (.istore_n 1, 1) := by decide +kernel
theorem dX10_readLine_18 : decode cX10_readLine 18 = .ok (.aload_n 0, 1) := by decide +kernel
theorem dX10_readLine_19 : decode cX10_readLine 19 = .ok (.iload_n 1, 1) := by decide +kernel
theorem dX10_readLine_20 : decode cX10_readLine 20 = .ok (.bipush (-4), 2) := by decide +kernel
theorem dX10_readLine_22 : decode cX10_readLine 22 = .ok (.if_icmp .eq 7, 3) := by decide +kernel
theorem dX10_readLine_25 : decode cX10_readLine 25 = .ok (.iconst 1, 1) := by decide +kernel
theorem dX10_readLine_26 : decode cX10_readLine 26 = .ok (.goto 4, 3) := by decide +kernel
theorem dX10_readLine_29 : decode cX10_readLine 29 = .ok (.iconst 0, 1) := by decide +kernel
theorem dX10_readLine_30 : decode cX10_readLine 30 = .ok (.iconst 2, 1) := by decide +kernel
theorem dX10_readLine_31 : decode cX10_readLine 31 = .ok (.invokevirtual 137, 3) := by decide +kernel
theorem dX10_readLine_34 : decode cX10_readLine 34 = .ok (.aload_n 0, 1) := by decide +kernel
theorem dX10_readLine_35 : decode cX10_readLine 35 = .ok (.iload_n 1, 1) := by decide +kernel
theorem dX10_readLine_36 : decode cX10_readLine 36 = .ok (.iconst 3, 1) := by decide +kernel
theorem dX10_readLine_37 : decode cX10_readLine 37 = .ok (.if_icmp .ne 15, 3) := by decide +kernel
theorem dX10_readLine_40 : decode cX10_readLine 40 = .ok (.aload_n 0, 1) := by decide +kernel
theorem dX10_readLine_41 : decode cX10_readLine 41 = .ok (.getfield 17, 3) := by decide +kernel
theorem dX10_readLine_44 : decode cX10_readLine 44 = .ok (.bipush 8, 2) := by decide +kernel
theorem dX10_readLine_46 : decode cX10_readLine 46 = .ok (.iaload, 1) := by decide +kernel
theorem dX10_readLine_47 : decode cX10_readLine 47 = .ok (.bipush 6, 2) := by decide +kernel
theorem dX10_readLine_49 : decode cX10_readLine 49 = .ok (.if_icmp .ge 20, 3) := by decide +kernel
theorem dX10_readLine_52 : decode cX10_readLine 52 = .ok (.iload_n 1, 1) := by decide +kernel
theorem dX10_readLine_53 : decode cX10_readLine 53 = .ok (.iconst 4, 1) := by decide +kernel
theorem dX10_readLine_54 : decode cX10_readLine 54 = .ok (.if_icmp .ne 11, 3) := by decide +kernel
theorem dX10_readLine_57 : decode cX10_readLine 57 = .ok (.aload_n 0, 1) := by decide +kernel
theorem dX10_readLine_58 : decode cX10_readLine 58 = .ok (.getfield 75, 3) := by decide +kernel
theorem dX10_readLine_61 : decode cX10_readLine 61 = .ok (.iconst 4, 1) := by decide +kernel
theorem dX10_readLine_62 : decode cX10_readLine 62 = .ok (.if_icmp .ge 7, 3) := by decide +kernel
theorem dX10_readLine_65 : decode cX10_readLine 65 = .ok (.iconst 1, 1) := by decide +kernel
theorem dX10_readLine_66 : decode cX10_readLine 66 = .ok (.goto 4, 3) := by decide +kernel
theorem dX10_readLine_69 : decode cX10_readLine 69 = .ok (.iconst 0, 1) := by decide +kernel
theorem dX10_readLine_70 : decode cX10_readLine 70 = .ok (.iconst 5, 1) := by decide +kernel
theorem dX10_readLine_71 : decode cX10_readLine 71 = .ok (.invokevirtual 137, 3) := by decide +kernel
theorem dX10_readLine_74 : decode cX10_readLine 74 = .ok (.aload_n 0, 1) := by decide +kernel
theorem dX10_readLine_75 : decode cX10_readLine 75 = .ok (.getfield 99, 3) := by decide +kernel
theorem dX10_readLine_78 : decode cX10_readLine 78 = .ok (.ifCond .ne 41, 3) := by decide +kernel
theorem dX10_readLine_81 : decode cX10_readLine 81 = .ok (.iload_n 1, 1) := by decide +kernel
theorem dX10_readLine_82 : decode cX10_readLine 82 = .ok (.iconst 1, 1) := by decide +kernel
theorem dX10_readLine_83 : decode cX10_readLine 83 = .ok (.if_icmp .gt 36, 3) := by decide +kernel
theorem dX10_readLine_86 : decode cX10_readLine 86 = .ok (.aload_n 0, 1) := by decide +kernel
theorem dX10_readLine_87 : decode cX10_readLine 87 = .ok (.aload_n 0, 1) := by decide +kernel
theorem dX10_readLine_88 : decode cX10_readLine 88 = .ok (.getfield 78, 3) := by decide +kernel
theorem dX10_readLine_91 : decode cX10_readLine 91 = .ok (.iload_n 1, 1) := by decide +kernel
theorem dX10_readLine_92 : decode cX10_readLine 92 = .ok (.ishr, 1) := by decide +kernel
theorem dX10_readLine_93 : decode cX10_readLine 93 = .ok (.iconst 1, 1) := by decide +kernel
theorem dX10_readLine_94 : decode cX10_readLine 94 = .ok (.iand, 1) := by decide +kernel
theorem dX10_readLine_95 : decode cX10_readLine 95 = .ok (.ifCond .ne 7, 3) := by decide +kernel
theorem dX10_readLine_98 : decode cX10_readLine 98 = .ok (.iconst 1, 1) := by decide +kernel
theorem dX10_readLine_99 : decode cX10_readLine 99 = .ok (.goto 4, 3) := by decide +kernel
theorem dX10_readLine_102 : decode cX10_readLine 102 = .ok (.iconst 0, 1) := by decide +kernel
theorem dX10_readLine_103 : decode cX10_readLine 103 = .ok (.iconst 4, 1) := by decide +kernel
theorem dX10_readLine_104 : decode cX10_readLine 104 = .ok (.invokevirtual 137, 3) := by decide +kernel
theorem dX10_readLine_107 : decode cX10_readLine 107 = .ok (.aload_n 0, 1) := by decide +kernel
theorem dX10_readLine_108 : decode cX10_readLine 108 = .ok (.dup, 1) := by decide +kernel
theorem dX10_readLine_109 : decode cX10_readLine 109 = .ok (.getfield 78, 3) := by decide +kernel
theorem dX10_readLine_112 : decode cX10_readLine 112 = .ok (.iconst 1, 1) := by decide +kernel
theorem dX10_readLine_113 : decode cX10_readLine 113 = .ok (.iload_n 1, 1) := by decide +kernel
theorem dX10_readLine_114 : decode cX10_readLine 114 = .ok (.ishl, 1) := by decide +kernel
theorem dX10_readLine_115 : decode cX10_readLine 115 = .ok (.ior, 1) := by decide +kernel
theorem dX10_readLine_116 : decode cX10_readLine 116 = .ok (.putfield 78, 3) := by decide +kernel
theorem dX10_readLine_119 : decode cX10_readLine 119 = .ok (.aload_n 0, 1) := by decide +kernel
theorem dX10_readLine_120 : decode cX10_readLine 120 = .ok (.invokevirtual 145, 3) := by decide +kernel
theorem dX10_readLine_123 : decode cX10_readLine 123 = .ok (.aload_n 0, 1) := by decide +kernel
theorem dX10_readLine_124 : decode cX10_readLine 124 = .ok (.getfield 99, 3) := by decide +kernel
theorem dX10_readLine_127 : decode cX10_readLine 127 = .ok (.ifCond .le 4, 3) := by decide +kernel
theorem dX10_readLine_130 : decode cX10_readLine 130 = .ok (.return_, 1) := by decide +kernel
theorem dX10_readLine_131 : decode cX10_readLine 131 = .ok (.aload_n 0, 1) := by decide +kernel
theorem dX10_readLine_132 : decode cX10_readLine 132 = .ok (.iload_n 1, 1) := by decide +kernel
theorem dX10_readLine_133 : decode cX10_readLine 133 = .ok (.invokevirtual 174, 3) := by decide +kernel
theorem dX10_readLine_136 : decode cX10_readLine 136 = .ok (.aload_n 0, 1) := by decide +kernel
theorem dX10_readLine_137 : decode cX10_readLine 137 = .ok (.getfield 99, 3) := by decide +kernel
theorem dX10_readLine_140 : decode cX10_readLine 140 = .ok (.ifCond .ne 21, 3) := by decide +kernel
theorem dX10_readLine_143 : decode cX10_readLine 143 = .ok (.aload_n 0, 1) := by decide +kernel
theorem dX10_readLine_144 : decode cX10_readLine 144 = .ok (.aload_n 0, 1) := by decide +kernel
theorem dX10_readLine_145 : decode cX10_readLine 145 = .ok (.getfield 123, 3) := by decide +kernel
theorem dX10_readLine_148 : decode cX10_readLine 148 = .ok (.iconst 3, 1) := by decide +kernel
theorem dX10_readLine_149 : decode cX10_readLine 149 = .ok (.if_icmp .ne 7, 3) := by decide +kernel
theorem dX10_readLine_152 : decode cX10_readLine 152 = .ok (.iconst 1, 1) := by decide +kernel
theorem dX10_readLine_153 : decode cX10_readLine 153 = .ok (.goto 4, 3) := by decide +kernel
theorem dX10_readLine_156 : decode cX10_readLine 156 = .ok (.iconst 0, 1) := by decide +kernel
theorem dX10_readLine_157 : decode cX10_readLine 157 = .ok (.iconst 2, 1) := by decide +kernel
theorem dX10_readLine_158 : decode cX10_readLine 158 = .ok (.invokevirtual 137, 3) := by decide +kernel
theorem dX10_readLine_161 : decode cX10_readLine 161 = .ok (.aload_n 0, 1) := by decide +kernel
theorem dX10_readLine_162 : decode cX10_readLine 162 = .ok (.invokevirtual 145, 3) := by decide +kernel
theorem dX10_readLine_165 : decode cX10_readLine 165 = .ok (.return_, 1) := by decide +kernel
theorem dX10_text_0 : decode cX10_text 0 = .ok (.iconst 0, 1) := by decide +kernel
theorem dX10_text_1 : decode cX10_text 1 = .ok (.istore_n 1, 1) := by decide +kernel
theorem dX10_text_2 : decode cX10_text 2 = .ok (.aload_n 0, 1) := by decide +kernel
theorem dX10_text_3 : decode cX10_text 3 = .ok (.iconst 0, 1) := by decide +kernel
theorem dX10_text_4 : decode cX10_text 4 = .ok (.putfield 99, 3) := by decide +kernel
theorem dX10_text_7 : decode cX10_text 7 = .ok (.aload_n 0, 1) := by decide +kernel
theorem dX10_text_8 : decode cX10_text 8 = .ok (.iconst 0, 1) := by decide +kernel
theorem dX10_text_9 : decode cX10_text 9 = .ok (.putfield 108, 3) := by decide +kernel
theorem dX10_text_12 : decode cX10_text 12 = .ok (.aload_n 0, 1) := by decide +kernel
theorem dX10_text_13 : decode cX10_text 13 = .ok (.invokevirtual 65, 3) := by decide +kernel
theorem dX10_text_16 : decode cX10_text 16 = .ok (.aload_n 0, 1) := by decide +kernel
theorem dX10_text_17 : decode cX10_text 17 = .ok (.invokevirtual 145, 3) := by decide +kernel
theorem dX10_text_20 : decode cX10_text 20 = .ok (.aload_n 0, 1) := by decide +kernel
theorem dX10_text_21 : decode cX10_text 21 = .ok (.getfield 99, 3) := by decide +kernel
theorem dX10_text_24 : decode cX10_text 24 = .ok (.ifCond .ne 20, 3) := by decide +kernel
theorem dX10_text_27 : decode cX10_text 27 = .ok (.aload_n 0, 1) := by decide +kernel
theorem dX10_text_28 : decode cX10_text 28 = .ok (.getfield 123, 3) := by decide +kernel
theorem dX10_text_31 : decode cX10_text 31 = .ok (.ifCond .eq 13, 3) := by decide +kernel
theorem dX10_text_34 : decode cX10_text 34 = .ok (.aload_n 0, 1) := by decide +kernel
theorem dX10_text_35 : decode cX10_text 35 = .ok (.invokevirtual 178, 3) := by decide +kernel
theorem dX10_text_38 : decode cX10_text 38 = .ok (.iinc 1 1, 3) := by decide +kernel
theorem dX10_text_41 : decode cX10_text 41 = .ok (.goto (-21), 3) := by decide +kernel
theorem dX10_text_44 : decode cX10_text 44 = .ok (.aload_n 0, 1) := by decide +kernel
theorem dX10_text_45 : decode cX10_text 45 = .ok (.getfield 99, 3) := by decide +kernel
theorem dX10_text_48 : decode cX10_text 48 = .ok (.ifCond .ne 25, 3) := by decide +kernel
theorem dX10_text_51 : decode cX10_text 51 = .ok (.aload_n 0, 1) := by decide +kernel
theorem dX10_text_52 : decode cX10_text 52 = .ok (.aload_n 0, 1) := by decide +kernel
theorem dX10_text_53 : decode cX10_text 53 = .ok (.getfield 81, 3) := by decide +kernel
theorem dX10_text_56 : decode cX10_text 56 = .ok (.aload_n 0, 1) := by decide +kernel
theorem dX10_text_57 : decode cX10_text 57 = .ok (.getfield 71, 3) := by decide +kernel
theorem dX10_text_60 : decode cX10_text 60 = .ok (.if_icmp .ge 7, 3) := by decide +kernel
theorem dX10_text_63 : decode cX10_text 63 = .ok (.iconst 1, 1) := by decide +kernel
theorem dX10_text_64 : decode cX10_text 64 = .ok (.goto 4, 3) := by decide +kernel
theorem dX10_text_67 : decode cX10_text 67 = .ok (.iconst 0, 1) := by decide +kernel
theorem dX10_text_68 : decode cX10_text 68 = .ok (.bipush 6, 2) := by decide +kernel
theorem dX10_text_70 : decode cX10_text 70 = .ok (.invokevirtual 137, 3) := by decide +kernel
theorem dX10_text_73 : decode cX10_text 73 = .ok (.aload_n 0, 1) := by decide +kernel
theorem dX10_text_74 : decode cX10_text 74 = .ok (.iconst 0, 1) := by decide +kernel
theorem dX10_text_75 : decode cX10_text 75 = .ok (.putfield 90, 3) := by decide +kernel
theorem dX10_text_78 : decode cX10_text 78 = .ok (.aload_n 0, 1) := by decide +kernel
theorem dX10_text_79 : decode cX10_text 79 = .ok (.getfield 99, 3) := by decide +kernel
theorem dX10_text_82 : decode cX10_text 82 = .ok (.ifCond .le 11, 3) := by decide +kernel
theorem dX10_text_85 : decode cX10_text 85 = .ok (.bipush (-10), 2) := by decide +kernel
theorem dX10_text_87 : decode cX10_text 87 = .ok (.aload_n 0, 1) := by decide +kernel
theorem dX10_text_88 : decode cX10_text 88 = .ok (.getfield 105, 3) := by decide +kernel
theorem dX10_text_91 : decode cX10_text 91 = .ok (.isub, 1) := by decide +kernel
theorem dX10_text_92 : decode cX10_text 92 = .ok (.ireturn, 1) := by decide +kernel
theorem dX10_text_93 : decode cX10_text 93 = .ok (.aload_n 0, 1) := by decide +kernel
theorem dX10_text_94 : decode cX10_text 94 = .ok (.invokevirtual 68, 3) := by decide +kernel
theorem dX10_text_97 : decode cX10_text 97 = .ok (.iload_n 1, 1) := by decide +kernel
theorem dX10_text_98 : decode cX10_text 98 = .ok (.ireturn, 1) := by decide +kernel
theorem dX10_fault_0 : decode cX10_fault 0 = .ok (.aload_n 0, 1) := by decide +kernel
theorem dX10_fault_1 : decode cX10_fault 1 = .ok (.getfield 99, 3) := by decide +kernel
theorem dX10_fault_4 : decode cX10_fault 4 = .ok (.ireturn, 1) := by decide +kernel
theorem dX10_isPlace_0 : decode cX10_isPlace 0 = .ok (.iload_n 1, 1) := by decide +kernel
theorem dX10_isPlace_1 : decode cX10_isPlace 1 = .ok (.i2l, 1) := by decide +kernel
theorem dX10_isPlace_2 : decode cX10_isPlace 2 = .ok (.lconst 0, 1) := by decide +kernel
theorem dX10_isPlace_3 : decode cX10_isPlace 3 = .ok (.aload_n 0, 1) := by decide +kernel
theorem dX10_isPlace_4 : decode cX10_isPlace 4 = .ok (.getfield 84, 3) := by decide +kernel
theorem dX10_isPlace_7 : decode cX10_isPlace 7 = .ok (.iconst 1, 1) := by decide +kernel
theorem dX10_isPlace_8 : decode cX10_isPlace 8 = .ok (.isub, 1) := by decide +kernel
theorem dX10_isPlace_9 : decode cX10_isPlace 9 = .ok (.i2l, 1) := by decide +kernel
theorem dX10_isPlace_10 : decode cX10_isPlace 10 = .ok (.invokestatic 95, 3) := by decide +kernel
theorem dX10_isPlace_13 : decode cX10_isPlace 13 = .ok (.ireturn, 1) := by decide +kernel
theorem dX10_isCoin_0 : decode cX10_isCoin 0 = .ok (.iload_n 1, 1) := by decide +kernel
theorem dX10_isCoin_1 : decode cX10_isCoin 1 = .ok (.i2l, 1) := by decide +kernel
theorem dX10_isCoin_2 : decode cX10_isCoin 2 = .ok (.lconst 0, 1) := by decide +kernel
theorem dX10_isCoin_3 : decode cX10_isCoin 3 = .ok (.aload_n 0, 1) := by decide +kernel
theorem dX10_isCoin_4 : decode cX10_isCoin 4 = .ok (.getfield 7, 3) := by decide +kernel
theorem dX10_isCoin_7 : decode cX10_isCoin 7 = .ok (.bipush 8, 2) := by decide +kernel
theorem dX10_isCoin_9 : decode cX10_isCoin 9 = .ok (.iaload, 1) := by decide +kernel
theorem dX10_isCoin_10 : decode cX10_isCoin 10 = .ok (.iconst 1, 1) := by decide +kernel
theorem dX10_isCoin_11 : decode cX10_isCoin 11 = .ok (.isub, 1) := by decide +kernel
theorem dX10_isCoin_12 : decode cX10_isCoin 12 = .ok (.i2l, 1) := by decide +kernel
theorem dX10_isCoin_13 : decode cX10_isCoin 13 = .ok (.invokestatic 95, 3) := by decide +kernel
theorem dX10_isCoin_16 : decode cX10_isCoin 16 = .ok (.ireturn, 1) := by decide +kernel
theorem dX10_isCrab_0 : decode cX10_isCrab 0 = .ok (.iload_n 1, 1) := by decide +kernel
theorem dX10_isCrab_1 : decode cX10_isCrab 1 = .ok (.i2l, 1) := by decide +kernel
theorem dX10_isCrab_2 : decode cX10_isCrab 2 = .ok (.lconst 0, 1) := by decide +kernel
theorem dX10_isCrab_3 : decode cX10_isCrab 3 = .ok (.aload_n 0, 1) := by decide +kernel
theorem dX10_isCrab_4 : decode cX10_isCrab 4 = .ok (.getfield 87, 3) := by decide +kernel
theorem dX10_isCrab_7 : decode cX10_isCrab 7 = .ok (.iconst 1, 1) := by decide +kernel
theorem dX10_isCrab_8 : decode cX10_isCrab 8 = .ok (.isub, 1) := by decide +kernel
theorem dX10_isCrab_9 : decode cX10_isCrab 9 = .ok (.i2l, 1) := by decide +kernel
theorem dX10_isCrab_10 : decode cX10_isCrab 10 = .ok (.invokestatic 95, 3) := by decide +kernel
theorem dX10_isCrab_13 : decode cX10_isCrab 13 = .ok (.ireturn, 1) := by decide +kernel
theorem dX10_starts_0 : decode cX10_starts 0 = .ok (.iconst 0, 1) := by decide +kernel
theorem dX10_starts_1 : decode cX10_starts 1 = .ok (.istore_n 1, 1) := by decide +kernel
theorem dX10_starts_2 : decode cX10_starts 2 = .ok (.iload_n 1, 1) := by decide +kernel
theorem dX10_starts_3 : decode cX10_starts 3 = .ok (.bipush 8, 2) := by decide +kernel
theorem dX10_starts_5 : decode cX10_starts 5 = .ok (.if_icmp .ge 23, 3) := by decide +kernel
theorem dX10_starts_8 : decode cX10_starts 8 = .ok (.aload_n 0, 1) := by decide +kernel
theorem dX10_starts_9 : decode cX10_starts 9 = .ok (.getfield 23, 3) := by decide +kernel
theorem dX10_starts_12 : decode cX10_starts 12 = .ok (.iload_n 1, 1) := by decide +kernel
theorem dX10_starts_13 : decode cX10_starts 13 = .ok (.aload_n 0, 1) := by decide +kernel
theorem dX10_starts_14 : decode cX10_starts 14 = .ok (.getfield 7, 3) := by decide +kernel
theorem dX10_starts_17 : decode cX10_starts 17 = .ok (.iconst 0, 1) := by decide +kernel
theorem dX10_starts_18 : decode cX10_starts 18 = .ok (.iload_n 1, 1) := by decide +kernel
theorem dX10_starts_19 : decode cX10_starts 19 = .ok (.iadd, 1) := by decide +kernel
theorem dX10_starts_20 : decode cX10_starts 20 = .ok (.iaload, 1) := by decide +kernel
theorem dX10_starts_21 : decode cX10_starts 21 = .ok (.iastore, 1) := by decide +kernel
theorem dX10_starts_22 : decode cX10_starts 22 = .ok (.iinc 1 1, 3) := by decide +kernel
theorem dX10_starts_25 : decode cX10_starts 25 = .ok (.goto (-23), 3) := by decide +kernel
theorem dX10_starts_28 : decode cX10_starts 28 = .ok (.iconst 0, 1) := by decide +kernel
theorem dX10_starts_29 : decode cX10_starts 29 = .ok (.istore_n 1, 1) := by decide +kernel
theorem dX10_starts_30 : decode cX10_starts 30 = .ok (.iload_n 1, 1) := by decide +kernel
theorem dX10_starts_31 : decode cX10_starts 31 = .ok (.bipush 6, 2) := by decide +kernel
theorem dX10_starts_33 : decode cX10_starts 33 = .ok (.if_icmp .ge 39, 3) := by decide +kernel
theorem dX10_starts_36 : decode cX10_starts 36 = .ok (.aload_n 0, 1) := by decide +kernel
theorem dX10_starts_37 : decode cX10_starts 37 = .ok (.getfield 26, 3) := by decide +kernel
theorem dX10_starts_40 : decode cX10_starts 40 = .ok (.iload_n 1, 1) := by decide +kernel
theorem dX10_starts_41 : decode cX10_starts 41 = .ok (.aload_n 0, 1) := by decide +kernel
theorem dX10_starts_42 : decode cX10_starts 42 = .ok (.getfield 7, 3) := by decide +kernel
theorem dX10_starts_45 : decode cX10_starts 45 = .ok (.bipush 15, 2) := by decide +kernel
theorem dX10_starts_47 : decode cX10_starts 47 = .ok (.iload_n 1, 1) := by decide +kernel
theorem dX10_starts_48 : decode cX10_starts 48 = .ok (.iadd, 1) := by decide +kernel
theorem dX10_starts_49 : decode cX10_starts 49 = .ok (.iaload, 1) := by decide +kernel
theorem dX10_starts_50 : decode cX10_starts 50 = .ok (.iastore, 1) := by decide +kernel
theorem dX10_starts_51 : decode cX10_starts 51 = .ok (.aload_n 0, 1) := by decide +kernel
theorem dX10_starts_52 : decode cX10_starts 52 = .ok (.getfield 29, 3) := by decide +kernel
theorem dX10_starts_55 : decode cX10_starts 55 = .ok (.iload_n 1, 1) := by decide +kernel
theorem dX10_starts_56 : decode cX10_starts 56 = .ok (.aload_n 0, 1) := by decide +kernel
theorem dX10_starts_57 : decode cX10_starts 57 = .ok (.getfield 7, 3) := by decide +kernel
theorem dX10_starts_60 : decode cX10_starts 60 = .ok (.bipush 21, 2) := by decide +kernel
theorem dX10_starts_62 : decode cX10_starts 62 = .ok (.iload_n 1, 1) := by decide +kernel
theorem dX10_starts_63 : decode cX10_starts 63 = .ok (.iadd, 1) := by decide +kernel
theorem dX10_starts_64 : decode cX10_starts 64 = .ok (.iaload, 1) := by decide +kernel
theorem dX10_starts_65 : decode cX10_starts 65 = .ok (.iastore, 1) := by decide +kernel
theorem dX10_starts_66 : decode cX10_starts 66 = .ok (.iinc 1 1, 3) := by decide +kernel
theorem dX10_starts_69 : decode cX10_starts 69 = .ok (.goto (-39), 3) := by decide +kernel
theorem dX10_starts_72 : decode cX10_starts 72 = .ok (.iconst 0, 1) := by decide +kernel
theorem dX10_starts_73 : decode cX10_starts 73 = .ok (.istore_n 1, 1) := by decide +kernel
theorem dX10_starts_74 : decode cX10_starts 74 = .ok (.iload_n 1, 1) := by decide +kernel
theorem dX10_starts_75 : decode cX10_starts 75 = .ok (.iconst 4, 1) := by decide +kernel
theorem dX10_starts_76 : decode cX10_starts 76 = .ok (.if_icmp .ge 76, 3) := by decide +kernel
theorem dX10_starts_79 : decode cX10_starts 79 = .ok (.aload_n 0, 1) := by decide +kernel
theorem dX10_starts_80 : decode cX10_starts 80 = .ok (.getfield 32, 3) := by decide +kernel
theorem dX10_starts_83 : decode cX10_starts 83 = .ok (.iload_n 1, 1) := by decide +kernel
theorem dX10_starts_84 : decode cX10_starts 84 = .ok (.aload_n 0, 1) := by decide +kernel
theorem dX10_starts_85 : decode cX10_starts 85 = .ok (.getfield 7, 3) := by decide +kernel
theorem dX10_starts_88 : decode cX10_starts 88 = .ok (.bipush 27, 2) := by decide +kernel
theorem dX10_starts_90 : decode cX10_starts 90 = .ok (.iload_n 1, 1) := by decide +kernel
theorem dX10_starts_91 : decode cX10_starts 91 = .ok (.iadd, 1) := by decide +kernel
theorem dX10_starts_92 : decode cX10_starts 92 = .ok (.iaload, 1) := by decide +kernel
theorem dX10_starts_93 : decode cX10_starts 93 = .ok (.iastore, 1) := by decide +kernel
theorem dX10_starts_94 : decode cX10_starts 94 = .ok (.aload_n 0, 1) := by decide +kernel
theorem dX10_starts_95 : decode cX10_starts 95 = .ok (.getfield 35, 3) := by decide +kernel
theorem dX10_starts_98 : decode cX10_starts 98 = .ok (.iload_n 1, 1) := by decide +kernel
theorem dX10_starts_99 : decode cX10_starts 99 = .ok (.aload_n 0, 1) := by decide +kernel
theorem dX10_starts_100 : decode cX10_starts 100 = .ok (.getfield 7, 3) := by decide +kernel
theorem dX10_starts_103 : decode cX10_starts 103 = .ok (.bipush 31, 2) := by decide +kernel
theorem dX10_starts_105 : decode cX10_starts 105 = .ok (.iload_n 1, 1) := by decide +kernel
theorem dX10_starts_106 : decode cX10_starts 106 = .ok (.iadd, 1) := by decide +kernel
theorem dX10_starts_107 : decode cX10_starts 107 = .ok (.iaload, 1) := by decide +kernel
theorem dX10_starts_108 : decode cX10_starts 108 = .ok (.iastore, 1) := by decide +kernel
theorem dX10_starts_109 : decode cX10_starts 109 = .ok (.aload_n 0, 1) := by decide +kernel
theorem dX10_starts_110 : decode cX10_starts 110 = .ok (.getfield 38, 3) := by decide +kernel
theorem dX10_starts_113 : decode cX10_starts 113 = .ok (.iload_n 1, 1) := by decide +kernel
theorem dX10_starts_114 : decode cX10_starts 114 = .ok (.aload_n 0, 1) := by decide +kernel
theorem dX10_starts_115 : decode cX10_starts 115 = .ok (.getfield 7, 3) := by decide +kernel
theorem dX10_starts_118 : decode cX10_starts 118 = .ok (.bipush 35, 2) := by decide +kernel
theorem dX10_starts_120 : decode cX10_starts 120 = .ok (.iload_n 1, 1) := by decide +kernel
theorem dX10_starts_121 : decode cX10_starts 121 = .ok (.iadd, 1) := by decide +kernel
theorem dX10_starts_122 : decode cX10_starts 122 = .ok (.iaload, 1) := by decide +kernel
theorem dX10_starts_123 : decode cX10_starts 123 = .ok (.iastore, 1) := by decide +kernel
theorem dX10_starts_124 : decode cX10_starts 124 = .ok (.aload_n 0, 1) := by decide +kernel
theorem dX10_starts_125 : decode cX10_starts 125 = .ok (.getfield 41, 3) := by decide +kernel
theorem dX10_starts_128 : decode cX10_starts 128 = .ok (.iload_n 1, 1) := by decide +kernel
theorem dX10_starts_129 : decode cX10_starts 129 = .ok (.aload_n 0, 1) := by decide +kernel
theorem dX10_starts_130 : decode cX10_starts 130 = .ok (.getfield 7, 3) := by decide +kernel
theorem dX10_starts_133 : decode cX10_starts 133 = .ok (.bipush 39, 2) := by decide +kernel
theorem dX10_starts_135 : decode cX10_starts 135 = .ok (.iload_n 1, 1) := by decide +kernel
theorem dX10_starts_136 : decode cX10_starts 136 = .ok (.iadd, 1) := by decide +kernel
theorem dX10_starts_137 : decode cX10_starts 137 = .ok (.iaload, 1) := by decide +kernel
theorem dX10_starts_138 : decode cX10_starts 138 = .ok (.iastore, 1) := by decide +kernel
theorem dX10_starts_139 : decode cX10_starts 139 = .ok (.aload_n 0, 1) := by decide +kernel
theorem dX10_starts_140 : decode cX10_starts 140 = .ok (.getfield 44, 3) := by decide +kernel
theorem dX10_starts_143 : decode cX10_starts 143 = .ok (.iload_n 1, 1) := by decide +kernel
theorem dX10_starts_144 : decode cX10_starts 144 = .ok (.iload_n 1, 1) := by decide +kernel
theorem dX10_starts_145 : decode cX10_starts 145 = .ok (.iastore, 1) := by decide +kernel
theorem dX10_starts_146 : decode cX10_starts 146 = .ok (.iinc 1 1, 3) := by decide +kernel
theorem dX10_starts_149 : decode cX10_starts 149 = .ok (.goto (-75), 3) := by decide +kernel
theorem dX10_starts_152 : decode cX10_starts 152 = .ok (.aload_n 0, 1) := by decide +kernel
theorem dX10_starts_153 : decode cX10_starts 153 = .ok (.aload_n 0, 1) := by decide +kernel
theorem dX10_starts_154 : decode cX10_starts 154 = .ok (.getfield 87, 3) := by decide +kernel
theorem dX10_starts_157 : decode cX10_starts 157 = .ok (.putfield 181, 3) := by decide +kernel
theorem dX10_starts_160 : decode cX10_starts 160 = .ok (.aload_n 0, 1) := by decide +kernel
theorem dX10_starts_161 : decode cX10_starts 161 = .ok (.aload_n 0, 1) := by decide +kernel
theorem dX10_starts_162 : decode cX10_starts 162 = .ok (.getfield 7, 3) := by decide +kernel
theorem dX10_starts_165 : decode cX10_starts 165 = .ok (.bipush 45, 2) := by decide +kernel
theorem dX10_starts_167 : decode cX10_starts 167 = .ok (.iaload, 1) := by decide +kernel
theorem dX10_starts_168 : decode cX10_starts 168 = .ok (.putfield 184, 3) := by decide +kernel
theorem dX10_starts_171 : decode cX10_starts 171 = .ok (.return_, 1) := by decide +kernel
theorem dX10_heldBy_0 : decode cX10_heldBy 0 = .ok (.bipush (-4), 2) := by decide +kernel
theorem dX10_heldBy_2 : decode cX10_heldBy 2 = .ok (.istore_n 2, 1) := by decide +kernel
theorem dX10_heldBy_3 : decode cX10_heldBy 3 = .ok (.aload_n 0, 1) := by decide +kernel
theorem dX10_heldBy_4 : decode cX10_heldBy 4 = .ok (.getfield 7, 3) := by decide +kernel
theorem dX10_heldBy_7 : decode cX10_heldBy 7 = .ok (.bipush 8, 2) := by decide +kernel
theorem dX10_heldBy_9 : decode cX10_heldBy 9 = .ok (.iaload, 1) := by decide +kernel
theorem dX10_heldBy_10 : decode cX10_heldBy 10 = .ok (.iconst 1, 1) := by decide +kernel
theorem dX10_heldBy_11 : decode cX10_heldBy 11 = .ok (.isub, 1) := by decide +kernel
theorem dX10_heldBy_12 : decode cX10_heldBy 12 = .ok (.istore_n 3, 1) := by decide +kernel
theorem dX10_heldBy_13 : decode cX10_heldBy 13 = .ok (.iload_n 3, 1) := by decide +kernel
theorem dX10_heldBy_14 : decode cX10_heldBy 14 = .ok (.ifCond .lt 28, 3) := by decide +kernel
theorem dX10_heldBy_17 : decode cX10_heldBy 17 = .ok (.aload_n 0, 1) := by decide +kernel
theorem dX10_heldBy_18 : decode cX10_heldBy 18 = .ok (.getfield 29, 3) := by decide +kernel
theorem dX10_heldBy_21 : decode cX10_heldBy 21 = .ok (.iload_n 3, 1) := by decide +kernel
theorem dX10_heldBy_22 : decode cX10_heldBy 22 = .ok (.iaload, 1) := by decide +kernel
theorem dX10_heldBy_23 : decode cX10_heldBy 23 = .ok (.bipush 10, 2) := by decide +kernel
theorem dX10_heldBy_25 : decode cX10_heldBy 25 = .ok (.iload_n 1, 1) := by decide +kernel
theorem dX10_heldBy_26 : decode cX10_heldBy 26 = .ok (.iadd, 1) := by decide +kernel
theorem dX10_heldBy_27 : decode cX10_heldBy 27 = .ok (.if_icmp .ne 7, 3) := by decide +kernel
theorem dX10_heldBy_30 : decode cX10_heldBy 30 = .ok (.iload_n 3, 1) := by decide +kernel
theorem dX10_heldBy_31 : decode cX10_heldBy 31 = .ok (.goto 4, 3) := by decide +kernel
theorem dX10_heldBy_34 : decode cX10_heldBy 34 = .ok (.iload_n 2, 1) := by decide +kernel
theorem dX10_heldBy_35 : decode cX10_heldBy 35 = .ok (.istore_n 2, 1) := by decide +kernel
theorem dX10_heldBy_36 : decode cX10_heldBy 36 = .ok (.iinc 3 (-1), 3) := by decide +kernel
theorem dX10_heldBy_39 : decode cX10_heldBy 39 = .ok (.goto (-26), 3) := by decide +kernel
theorem dX10_heldBy_42 : decode cX10_heldBy 42 = .ok (.iload_n 2, 1) := by decide +kernel
theorem dX10_heldBy_43 : decode cX10_heldBy 43 = .ok (.ireturn, 1) := by decide +kernel
theorem dX10_doesFit_0 : decode cX10_doesFit 0 = .ok (.aload_n 0, 1) := by decide +kernel
theorem dX10_doesFit_1 : decode cX10_doesFit 1 = .ok (.getfield 26, 3) := by decide +kernel
theorem dX10_doesFit_4 : decode cX10_doesFit 4 = .ok (.iload_n 1, 1) := by decide +kernel
theorem dX10_doesFit_5 : decode cX10_doesFit 5 = .ok (.iaload, 1) := by decide +kernel
theorem dX10_doesFit_6 : decode cX10_doesFit 6 = .ok (.ifCond .ne 45, 3) := by decide +kernel
theorem dX10_doesFit_9 : decode cX10_doesFit 9 = .ok (.aload_n 0, 1) := by decide +kernel
theorem dX10_doesFit_10 : decode cX10_doesFit 10 = .ok (.getfield 7, 3) := by decide +kernel
theorem dX10_doesFit_13 : decode cX10_doesFit 13 = .ok (.bipush 9, 2) := by decide +kernel
theorem dX10_doesFit_15 : decode cX10_doesFit 15 = .ok (.iload_n 1, 1) := by decide +kernel
theorem dX10_doesFit_16 : decode cX10_doesFit 16 = .ok (.iadd, 1) := by decide +kernel
theorem dX10_doesFit_17 : decode cX10_doesFit 17 = .ok (.iaload, 1) := by decide +kernel
theorem dX10_doesFit_18 : decode cX10_doesFit 18 = .ok (.aload_n 0, 1) := by decide +kernel
theorem dX10_doesFit_19 : decode cX10_doesFit 19 = .ok (.getfield 32, 3) := by decide +kernel
theorem dX10_doesFit_22 : decode cX10_doesFit 22 = .ok (.iload_n 2, 1) := by decide +kernel
theorem dX10_doesFit_23 : decode cX10_doesFit 23 = .ok (.iaload, 1) := by decide +kernel
theorem dX10_doesFit_24 : decode cX10_doesFit 24 = .ok (.if_icmp .eq 23, 3) := by decide +kernel
theorem dX10_doesFit_27 : decode cX10_doesFit 27 = .ok (.aload_n 0, 1) := by decide +kernel
theorem dX10_doesFit_28 : decode cX10_doesFit 28 = .ok (.getfield 7, 3) := by decide +kernel
theorem dX10_doesFit_31 : decode cX10_doesFit 31 = .ok (.bipush 9, 2) := by decide +kernel
theorem dX10_doesFit_33 : decode cX10_doesFit 33 = .ok (.iload_n 1, 1) := by decide +kernel
theorem dX10_doesFit_34 : decode cX10_doesFit 34 = .ok (.iadd, 1) := by decide +kernel
theorem dX10_doesFit_35 : decode cX10_doesFit 35 = .ok (.iaload, 1) := by decide +kernel
theorem dX10_doesFit_36 : decode cX10_doesFit 36 = .ok (.aload_n 0, 1) := by decide +kernel
theorem dX10_doesFit_37 : decode cX10_doesFit 37 = .ok (.getfield 32, 3) := by decide +kernel
theorem dX10_doesFit_40 : decode cX10_doesFit 40 = .ok (.iload_n 2, 1) := by decide +kernel
theorem dX10_doesFit_41 : decode cX10_doesFit 41 = .ok (.iaload, 1) := by decide +kernel
theorem dX10_doesFit_42 : decode cX10_doesFit 42 = .ok (.iconst 1, 1) := by decide +kernel
theorem dX10_doesFit_43 : decode cX10_doesFit 43 = .ok (.isub, 1) := by decide +kernel
theorem dX10_doesFit_44 : decode cX10_doesFit 44 = .ok (.if_icmp .ne 7, 3) := by decide +kernel
theorem dX10_doesFit_47 : decode cX10_doesFit 47 = .ok (.iconst 1, 1) := by decide +kernel
theorem dX10_doesFit_48 : decode cX10_doesFit 48 = .ok (.goto 4, 3) := by decide +kernel
theorem dX10_doesFit_51 : decode cX10_doesFit 51 = .ok (.iconst 0, 1) := by decide +kernel
theorem dX10_doesFit_52 : decode cX10_doesFit 52 = .ok (.ireturn, 1) := by decide +kernel
theorem dX10_lyingFor_0 : decode cX10_lyingFor 0 = .ok (.bipush (-4), 2) := by decide +kernel
theorem dX10_lyingFor_2 : decode cX10_lyingFor 2 = .ok (.istore_n 2, 1) := by decide +kernel
theorem dX10_lyingFor_3 : decode cX10_lyingFor 3 = .ok (.aload_n 0, 1) := by decide +kernel
theorem dX10_lyingFor_4 : decode cX10_lyingFor 4 = .ok (.getfield 7, 3) := by decide +kernel
theorem dX10_lyingFor_7 : decode cX10_lyingFor 7 = .ok (.bipush 8, 2) := by decide +kernel
theorem dX10_lyingFor_9 : decode cX10_lyingFor 9 = .ok (.iaload, 1) := by decide +kernel
theorem dX10_lyingFor_10 : decode cX10_lyingFor 10 = .ok (.iconst 1, 1) := by decide +kernel
theorem dX10_lyingFor_11 : decode cX10_lyingFor 11 = .ok (.isub, 1) := by decide +kernel
theorem dX10_lyingFor_12 : decode cX10_lyingFor 12 = .ok (.istore_n 3, 1) := by decide +kernel
theorem dX10_lyingFor_13 : decode cX10_lyingFor 13 = .ok (.iload_n 3, 1) := by decide +kernel
theorem dX10_lyingFor_14 : decode cX10_lyingFor 14 = .ok (.ifCond .lt 39, 3) := by decide +kernel
theorem dX10_lyingFor_17 : decode cX10_lyingFor 17 = .ok (.aload_n 0, 1) := by decide +kernel
theorem dX10_lyingFor_18 : decode cX10_lyingFor 18 = .ok (.getfield 29, 3) := by decide +kernel
theorem dX10_lyingFor_21 : decode cX10_lyingFor 21 = .ok (.iload_n 3, 1) := by decide +kernel
theorem dX10_lyingFor_22 : decode cX10_lyingFor 22 = .ok (.iaload, 1) := by decide +kernel
theorem dX10_lyingFor_23 : decode cX10_lyingFor 23 = .ok (.aload_n 0, 1) := by decide +kernel
theorem dX10_lyingFor_24 : decode cX10_lyingFor 24 = .ok (.getfield 41, 3) := by decide +kernel
theorem dX10_lyingFor_27 : decode cX10_lyingFor 27 = .ok (.iload_n 1, 1) := by decide +kernel
theorem dX10_lyingFor_28 : decode cX10_lyingFor 28 = .ok (.iaload, 1) := by decide +kernel
theorem dX10_lyingFor_29 : decode cX10_lyingFor 29 = .ok (.if_icmp .ne 16, 3) := by decide +kernel
theorem dX10_lyingFor_32 : decode cX10_lyingFor 32 = .ok (.aload_n 0, 1) := by decide +kernel
theorem dX10_lyingFor_33 : decode cX10_lyingFor 33 = .ok (.iload_n 3, 1) := by decide +kernel
theorem dX10_lyingFor_34 : decode cX10_lyingFor 34 = .ok (.iload_n 1, 1) := by decide +kernel
theorem dX10_lyingFor_35 : decode cX10_lyingFor 35 = .ok (.invokevirtual 187, 3) := by decide +kernel
theorem dX10_lyingFor_38 : decode cX10_lyingFor 38 = .ok (.ifCond .eq 7, 3) := by decide +kernel
theorem dX10_lyingFor_41 : decode cX10_lyingFor 41 = .ok (.iload_n 3, 1) := by decide +kernel
theorem dX10_lyingFor_42 : decode cX10_lyingFor 42 = .ok (.goto 4, 3) := by decide +kernel
theorem dX10_lyingFor_45 : decode cX10_lyingFor 45 = .ok (.iload_n 2, 1) := by decide +kernel
theorem dX10_lyingFor_46 : decode cX10_lyingFor 46 = .ok (.istore_n 2, 1) := by decide +kernel
theorem dX10_lyingFor_47 : decode cX10_lyingFor 47 = .ok (.iinc 3 (-1), 3) := by decide +kernel
theorem dX10_lyingFor_50 : decode cX10_lyingFor 50 = .ok (.goto (-37), 3) := by decide +kernel
theorem dX10_lyingFor_53 : decode cX10_lyingFor 53 = .ok (.iload_n 2, 1) := by decide +kernel
theorem dX10_lyingFor_54 : decode cX10_lyingFor 54 = .ok (.ireturn, 1) := by decide +kernel
theorem dX10_does_0 : decode cX10_does 0 = .ok (.aload_n 0, 1) := by decide +kernel
theorem dX10_does_1 : decode cX10_does 1 = .ok (.iload_n 1, 1) := by decide +kernel
theorem dX10_does_2 : decode cX10_does 2 = .ok (.invokevirtual 191, 3) := by decide +kernel
theorem dX10_does_5 : decode cX10_does 5 = .ok (.istore_n 2, 1) := by decide +kernel
theorem dX10_does_6 : decode cX10_does 6 = .ok (.aload_n 0, 1) := by decide +kernel
theorem dX10_does_7 : decode cX10_does 7 = .ok (.getfield 41, 3) := by decide +kernel
theorem dX10_does_10 : decode cX10_does 10 = .ok (.iload_n 1, 1) := by decide +kernel
theorem dX10_does_11 : decode cX10_does 11 = .ok (.iaload, 1) := by decide +kernel
theorem dX10_does_12 : decode cX10_does 12 = .ok (.istore_n 3, 1) := by decide +kernel
theorem dX10_does_13 : decode cX10_does 13 = .ok (.iload_n 2, 1) := by decide +kernel
theorem dX10_does_14 : decode cX10_does 14 = .ok (.bipush (-4), 2) := by decide +kernel
theorem dX10_does_16 : decode cX10_does 16 = .ok (.if_icmp .eq 38, 3) := by decide +kernel
theorem dX10_does_19 : decode cX10_does 19 = .ok (.aload_n 0, 1) := by decide +kernel
theorem dX10_does_20 : decode cX10_does 20 = .ok (.getfield 23, 3) := by decide +kernel
theorem dX10_does_23 : decode cX10_does 23 = .ok (.iload_n 3, 1) := by decide +kernel
theorem dX10_does_24 : decode cX10_does 24 = .ok (.iaload, 1) := by decide +kernel
theorem dX10_does_25 : decode cX10_does 25 = .ok (.ifCond .le 29, 3) := by decide +kernel
theorem dX10_does_28 : decode cX10_does 28 = .ok (.aload_n 0, 1) := by decide +kernel
theorem dX10_does_29 : decode cX10_does 29 = .ok (.getfield 23, 3) := by decide +kernel
theorem dX10_does_32 : decode cX10_does 32 = .ok (.iload_n 3, 1) := by decide +kernel
theorem dX10_does_33 : decode cX10_does 33 = .ok (.iaload, 1) := by decide +kernel
theorem dX10_does_34 : decode cX10_does 34 = .ok (.aload_n 0, 1) := by decide +kernel
theorem dX10_does_35 : decode cX10_does 35 = .ok (.getfield 35, 3) := by decide +kernel
theorem dX10_does_38 : decode cX10_does 38 = .ok (.iload_n 1, 1) := by decide +kernel
theorem dX10_does_39 : decode cX10_does 39 = .ok (.iaload, 1) := by decide +kernel
theorem dX10_does_40 : decode cX10_does 40 = .ok (.if_icmp .lt 14, 3) := by decide +kernel
theorem dX10_does_43 : decode cX10_does 43 = .ok (.aload_n 0, 1) := by decide +kernel
theorem dX10_does_44 : decode cX10_does 44 = .ok (.getfield 29, 3) := by decide +kernel
theorem dX10_does_47 : decode cX10_does 47 = .ok (.iload_n 2, 1) := by decide +kernel
theorem dX10_does_48 : decode cX10_does 48 = .ok (.bipush 20, 2) := by decide +kernel
theorem dX10_does_50 : decode cX10_does 50 = .ok (.iload_n 3, 1) := by decide +kernel
theorem dX10_does_51 : decode cX10_does 51 = .ok (.iadd, 1) := by decide +kernel
theorem dX10_does_52 : decode cX10_does 52 = .ok (.iastore, 1) := by decide +kernel
theorem dX10_does_53 : decode cX10_does 53 = .ok (.return_, 1) := by decide +kernel
theorem dX10_does_54 : decode cX10_does 54 = .ok (.iload_n 2, 1) := by decide +kernel
theorem dX10_does_55 : decode cX10_does 55 = .ok (.bipush (-4), 2) := by decide +kernel
theorem dX10_does_57 : decode cX10_does 57 = .ok (.if_icmp .ne 11, 3) := by decide +kernel
theorem dX10_does_60 : decode cX10_does 60 = .ok (.aload_n 0, 1) := by decide +kernel
theorem dX10_does_61 : decode cX10_does 61 = .ok (.iload_n 1, 1) := by decide +kernel
theorem dX10_does_62 : decode cX10_does 62 = .ok (.invokevirtual 194, 3) := by decide +kernel
theorem dX10_does_65 : decode cX10_does 65 = .ok (.goto 5, 3) := by decide +kernel
theorem dX10_does_68 : decode cX10_does 68 = .ok (.bipush (-4), 2) := by decide +kernel
theorem dX10_does_70 : decode cX10_does 70 = .ok (.istore 4, 2) := by decide +kernel
theorem dX10_does_72 : decode cX10_does 72 = .ok (.iload 4, 2) := by decide +kernel
theorem dX10_does_74 : decode cX10_does 74 = .ok (.bipush (-4), 2) := by decide +kernel
theorem dX10_does_76 : decode cX10_does 76 = .ok (.if_icmp .eq 17, 3) := by decide +kernel
theorem dX10_does_79 : decode cX10_does 79 = .ok (.aload_n 0, 1) := by decide +kernel
theorem dX10_does_80 : decode cX10_does 80 = .ok (.getfield 29, 3) := by decide +kernel
theorem dX10_does_83 : decode cX10_does 83 = .ok (.iload 4, 2) := by decide +kernel
theorem dX10_does_85 : decode cX10_does 85 = .ok (.bipush 10, 2) := by decide +kernel
theorem dX10_does_87 : decode cX10_does 87 = .ok (.iload_n 1, 1) := by decide +kernel
theorem dX10_does_88 : decode cX10_does 88 = .ok (.iadd, 1) := by decide +kernel
theorem dX10_does_89 : decode cX10_does 89 = .ok (.iastore, 1) := by decide +kernel
theorem dX10_does_90 : decode cX10_does 90 = .ok (.goto 42, 3) := by decide +kernel
theorem dX10_does_93 : decode cX10_does 93 = .ok (.aload_n 0, 1) := by decide +kernel
theorem dX10_does_94 : decode cX10_does 94 = .ok (.getfield 41, 3) := by decide +kernel
theorem dX10_does_97 : decode cX10_does 97 = .ok (.iload_n 1, 1) := by decide +kernel
theorem dX10_does_98 : decode cX10_does 98 = .ok (.aload_n 0, 1) := by decide +kernel
theorem dX10_does_99 : decode cX10_does 99 = .ok (.getfield 38, 3) := by decide +kernel
theorem dX10_does_102 : decode cX10_does 102 = .ok (.iload_n 1, 1) := by decide +kernel
theorem dX10_does_103 : decode cX10_does 103 = .ok (.iaload, 1) := by decide +kernel
theorem dX10_does_104 : decode cX10_does 104 = .ok (.ifCond .ne 19, 3) := by decide +kernel
theorem dX10_does_107 : decode cX10_does 107 = .ok (.iload_n 3, 1) := by decide +kernel
theorem dX10_does_108 : decode cX10_does 108 = .ok (.aload_n 0, 1) := by decide +kernel
theorem dX10_does_109 : decode cX10_does 109 = .ok (.getfield 84, 3) := by decide +kernel
theorem dX10_does_112 : decode cX10_does 112 = .ok (.iadd, 1) := by decide +kernel
theorem dX10_does_113 : decode cX10_does 113 = .ok (.iconst 1, 1) := by decide +kernel
theorem dX10_does_114 : decode cX10_does 114 = .ok (.isub, 1) := by decide +kernel
theorem dX10_does_115 : decode cX10_does 115 = .ok (.aload_n 0, 1) := by decide +kernel
theorem dX10_does_116 : decode cX10_does 116 = .ok (.getfield 84, 3) := by decide +kernel
theorem dX10_does_119 : decode cX10_does 119 = .ok (.irem, 1) := by decide +kernel
theorem dX10_does_120 : decode cX10_does 120 = .ok (.goto 11, 3) := by decide +kernel
theorem dX10_does_123 : decode cX10_does 123 = .ok (.iload_n 3, 1) := by decide +kernel
theorem dX10_does_124 : decode cX10_does 124 = .ok (.iconst 1, 1) := by decide +kernel
theorem dX10_does_125 : decode cX10_does 125 = .ok (.iadd, 1) := by decide +kernel
theorem dX10_does_126 : decode cX10_does 126 = .ok (.aload_n 0, 1) := by decide +kernel
theorem dX10_does_127 : decode cX10_does 127 = .ok (.getfield 84, 3) := by decide +kernel
theorem dX10_does_130 : decode cX10_does 130 = .ok (.irem, 1) := by decide +kernel
theorem dX10_does_131 : decode cX10_does 131 = .ok (.iastore, 1) := by decide +kernel
theorem dX10_does_132 : decode cX10_does 132 = .ok (.return_, 1) := by decide +kernel
theorem dX10_fights_0 : decode cX10_fights 0 = .ok (.iconst 0, 1) := by decide +kernel
theorem dX10_fights_1 : decode cX10_fights 1 = .ok (.istore_n 1, 1) := by decide +kernel
theorem dX10_fights_2 : decode cX10_fights 2 = .ok (.iload_n 1, 1) := by decide +kernel
theorem dX10_fights_3 : decode cX10_fights 3 = .ok (.aload_n 0, 1) := by decide +kernel
theorem dX10_fights_4 : decode cX10_fights 4 = .ok (.getfield 181, 3) := by decide +kernel
theorem dX10_fights_7 : decode cX10_fights 7 = .ok (.if_icmp .ge 155, 3) := by decide +kernel
theorem dX10_fights_10 : decode cX10_fights 10 = .ok (.aload_n 0, 1) := by decide +kernel
theorem dX10_fights_11 : decode cX10_fights 11 = .ok (.getfield 44, 3) := by decide +kernel
theorem dX10_fights_14 : decode cX10_fights 14 = .ok (.iload_n 1, 1) := by decide +kernel
theorem dX10_fights_15 : decode cX10_fights 15 = .ok (.iaload, 1) := by decide +kernel
theorem dX10_fights_16 : decode cX10_fights 16 = .ok (.istore_n 2, 1) := by decide +kernel
theorem dX10_fights_17 : decode cX10_fights 17 = .ok (.aload_n 0, 1) := by decide +kernel
theorem dX10_fights_18 : decode cX10_fights 18 = .ok (.iload_n 2, 1) := by decide +kernel
theorem dX10_fights_19 : decode cX10_fights 19 = .ok (.invokevirtual 191, 3) := by decide +kernel
theorem dX10_fights_22 : decode cX10_fights 22 = .ok (.bipush (-4), 2) := by decide +kernel
theorem dX10_fights_24 : decode cX10_fights 24 = .ok (.if_icmp .eq 7, 3) := by decide +kernel
theorem dX10_fights_27 : decode cX10_fights 27 = .ok (.iconst 1, 1) := by decide +kernel
theorem dX10_fights_28 : decode cX10_fights 28 = .ok (.goto 4, 3) := by decide +kernel
theorem dX10_fights_31 : decode cX10_fights 31 = .ok (.iconst 0, 1) := by decide +kernel
theorem dX10_fights_32 : decode cX10_fights 32 = .ok (.istore_n 3, 1) := by decide +kernel
theorem dX10_fights_33 : decode cX10_fights 33 = .ok (.iconst 0, 1) := by decide +kernel
theorem dX10_fights_34 : decode cX10_fights 34 = .ok (.istore 4, 2) := by decide +kernel
theorem dX10_fights_36 : decode cX10_fights 36 = .ok (.iconst 0, 1) := by decide +kernel
theorem dX10_fights_37 : decode cX10_fights 37 = .ok (.istore 5, 2) := by decide +kernel
theorem dX10_fights_39 : decode cX10_fights 39 = .ok (.iload 5, 2) := by decide +kernel
theorem dX10_fights_41 : decode cX10_fights 41 = .ok (.aload_n 0, 1) := by decide +kernel
theorem dX10_fights_42 : decode cX10_fights 42 = .ok (.getfield 181, 3) := by decide +kernel
theorem dX10_fights_45 : decode cX10_fights 45 = .ok (.if_icmp .ge 91, 3) := by decide +kernel
theorem dX10_fights_48 : decode cX10_fights 48 = .ok (.aload_n 0, 1) := by decide +kernel
theorem dX10_fights_49 : decode cX10_fights 49 = .ok (.getfield 44, 3) := by decide +kernel
theorem dX10_fights_52 : decode cX10_fights 52 = .ok (.iload 5, 2) := by decide +kernel
theorem dX10_fights_54 : decode cX10_fights 54 = .ok (.iaload, 1) := by decide +kernel
theorem dX10_fights_55 : decode cX10_fights 55 = .ok (.istore 6, 2) := by decide +kernel
theorem dX10_fights_57 : decode cX10_fights 57 = .ok (.iload 6, 2) := by decide +kernel
theorem dX10_fights_59 : decode cX10_fights 59 = .ok (.iload_n 2, 1) := by decide +kernel
theorem dX10_fights_60 : decode cX10_fights 60 = .ok (.if_icmp .eq 34, 3) := by decide +kernel
theorem dX10_fights_63 : decode cX10_fights 63 = .ok (.aload_n 0, 1) := by decide +kernel
theorem dX10_fights_64 : decode cX10_fights 64 = .ok (.getfield 41, 3) := by decide +kernel
theorem dX10_fights_67 : decode cX10_fights 67 = .ok (.iload 6, 2) := by decide +kernel
theorem dX10_fights_69 : decode cX10_fights 69 = .ok (.iaload, 1) := by decide +kernel
theorem dX10_fights_70 : decode cX10_fights 70 = .ok (.aload_n 0, 1) := by decide +kernel
theorem dX10_fights_71 : decode cX10_fights 71 = .ok (.getfield 41, 3) := by decide +kernel
theorem dX10_fights_74 : decode cX10_fights 74 = .ok (.iload_n 2, 1) := by decide +kernel
theorem dX10_fights_75 : decode cX10_fights 75 = .ok (.iaload, 1) := by decide +kernel
theorem dX10_fights_76 : decode cX10_fights 76 = .ok (.if_icmp .ne 18, 3) := by decide +kernel
theorem dX10_fights_79 : decode cX10_fights 79 = .ok (.aload_n 0, 1) := by decide +kernel
theorem dX10_fights_80 : decode cX10_fights 80 = .ok (.iload 6, 2) := by decide +kernel
theorem dX10_fights_82 : decode cX10_fights 82 = .ok (.invokevirtual 191, 3) := by decide +kernel
theorem dX10_fights_85 : decode cX10_fights 85 = .ok (.bipush (-4), 2) := by decide +kernel
theorem dX10_fights_87 : decode cX10_fights 87 = .ok (.if_icmp .eq 7, 3) := by decide +kernel
theorem dX10_fights_90 : decode cX10_fights 90 = .ok (.iconst 1, 1) := by decide +kernel
theorem dX10_fights_91 : decode cX10_fights 91 = .ok (.goto 4, 3) := by decide +kernel
theorem dX10_fights_94 : decode cX10_fights 94 = .ok (.iconst 0, 1) := by decide +kernel
theorem dX10_fights_95 : decode cX10_fights 95 = .ok (.istore 7, 2) := by decide +kernel
theorem dX10_fights_97 : decode cX10_fights 97 = .ok (.iload 4, 2) := by decide +kernel
theorem dX10_fights_99 : decode cX10_fights 99 = .ok (.ifCond .ne 24, 3) := by decide +kernel
theorem dX10_fights_102 : decode cX10_fights 102 = .ok (.iload 7, 2) := by decide +kernel
theorem dX10_fights_104 : decode cX10_fights 104 = .ok (.ifCond .eq 23, 3) := by decide +kernel
theorem dX10_fights_107 : decode cX10_fights 107 = .ok (.aload_n 0, 1) := by decide +kernel
theorem dX10_fights_108 : decode cX10_fights 108 = .ok (.getfield 32, 3) := by decide +kernel
theorem dX10_fights_111 : decode cX10_fights 111 = .ok (.iload 6, 2) := by decide +kernel
theorem dX10_fights_113 : decode cX10_fights 113 = .ok (.iaload, 1) := by decide +kernel
theorem dX10_fights_114 : decode cX10_fights 114 = .ok (.aload_n 0, 1) := by decide +kernel
theorem dX10_fights_115 : decode cX10_fights 115 = .ok (.getfield 32, 3) := by decide +kernel
theorem dX10_fights_118 : decode cX10_fights 118 = .ok (.iload_n 2, 1) := by decide +kernel
theorem dX10_fights_119 : decode cX10_fights 119 = .ok (.iaload, 1) := by decide +kernel
theorem dX10_fights_120 : decode cX10_fights 120 = .ok (.if_icmp .lt 7, 3) := by decide +kernel
theorem dX10_fights_123 : decode cX10_fights 123 = .ok (.iconst 1, 1) := by decide +kernel
theorem dX10_fights_124 : decode cX10_fights 124 = .ok (.goto 4, 3) := by decide +kernel
theorem dX10_fights_127 : decode cX10_fights 127 = .ok (.iconst 0, 1) := by decide +kernel
theorem dX10_fights_128 : decode cX10_fights 128 = .ok (.istore 4, 2) := by decide +kernel
theorem dX10_fights_130 : decode cX10_fights 130 = .ok (.iinc 5 1, 3) := by decide +kernel
theorem dX10_fights_133 : decode cX10_fights 133 = .ok (.goto (-94), 3) := by decide +kernel
theorem dX10_fights_136 : decode cX10_fights 136 = .ok (.aload_n 0, 1) := by decide +kernel
theorem dX10_fights_137 : decode cX10_fights 137 = .ok (.getfield 47, 3) := by decide +kernel
theorem dX10_fights_140 : decode cX10_fights 140 = .ok (.iload_n 2, 1) := by decide +kernel
theorem dX10_fights_141 : decode cX10_fights 141 = .ok (.iload_n 3, 1) := by decide +kernel
theorem dX10_fights_142 : decode cX10_fights 142 = .ok (.ifCond .eq 12, 3) := by decide +kernel
theorem dX10_fights_145 : decode cX10_fights 145 = .ok (.iload 4, 2) := by decide +kernel
theorem dX10_fights_147 : decode cX10_fights 147 = .ok (.ifCond .eq 7, 3) := by decide +kernel
theorem dX10_fights_150 : decode cX10_fights 150 = .ok (.iconst 1, 1) := by decide +kernel
theorem dX10_fights_151 : decode cX10_fights 151 = .ok (.goto 4, 3) := by decide +kernel
theorem dX10_fights_154 : decode cX10_fights 154 = .ok (.iconst 0, 1) := by decide +kernel
theorem dX10_fights_155 : decode cX10_fights 155 = .ok (.bastore, 1) := by decide +kernel
theorem dX10_fights_156 : decode cX10_fights 156 = .ok (.iinc 1 1, 3) := by decide +kernel
theorem dX10_fights_159 : decode cX10_fights 159 = .ok (.goto (-157), 3) := by decide +kernel
theorem dX10_fights_162 : decode cX10_fights 162 = .ok (.iconst 0, 1) := by decide +kernel
theorem dX10_fights_163 : decode cX10_fights 163 = .ok (.istore_n 1, 1) := by decide +kernel
theorem dX10_fights_164 : decode cX10_fights 164 = .ok (.iload_n 1, 1) := by decide +kernel
theorem dX10_fights_165 : decode cX10_fights 165 = .ok (.aload_n 0, 1) := by decide +kernel
theorem dX10_fights_166 : decode cX10_fights 166 = .ok (.getfield 181, 3) := by decide +kernel
theorem dX10_fights_169 : decode cX10_fights 169 = .ok (.if_icmp .ge 41, 3) := by decide +kernel
theorem dX10_fights_172 : decode cX10_fights 172 = .ok (.aload_n 0, 1) := by decide +kernel
theorem dX10_fights_173 : decode cX10_fights 173 = .ok (.getfield 44, 3) := by decide +kernel
theorem dX10_fights_176 : decode cX10_fights 176 = .ok (.iload_n 1, 1) := by decide +kernel
theorem dX10_fights_177 : decode cX10_fights 177 = .ok (.iaload, 1) := by decide +kernel
theorem dX10_fights_178 : decode cX10_fights 178 = .ok (.istore_n 2, 1) := by decide +kernel
theorem dX10_fights_179 : decode cX10_fights 179 = .ok (.aload_n 0, 1) := by decide +kernel
theorem dX10_fights_180 : decode cX10_fights 180 = .ok (.getfield 47, 3) := by decide +kernel
theorem dX10_fights_183 : decode cX10_fights 183 = .ok (.iload_n 2, 1) := by decide +kernel
theorem dX10_fights_184 : decode cX10_fights 184 = .ok (.baload, 1) := by decide +kernel
theorem dX10_fights_185 : decode cX10_fights 185 = .ok (.ifCond .eq 19, 3) := by decide +kernel
theorem dX10_fights_188 : decode cX10_fights 188 = .ok (.aload_n 0, 1) := by decide +kernel
theorem dX10_fights_189 : decode cX10_fights 189 = .ok (.getfield 29, 3) := by decide +kernel
theorem dX10_fights_192 : decode cX10_fights 192 = .ok (.aload_n 0, 1) := by decide +kernel
theorem dX10_fights_193 : decode cX10_fights 193 = .ok (.iload_n 2, 1) := by decide +kernel
theorem dX10_fights_194 : decode cX10_fights 194 = .ok (.invokevirtual 191, 3) := by decide +kernel
theorem dX10_fights_197 : decode cX10_fights 197 = .ok (.aload_n 0, 1) := by decide +kernel
theorem dX10_fights_198 : decode cX10_fights 198 = .ok (.getfield 41, 3) := by decide +kernel
theorem dX10_fights_201 : decode cX10_fights 201 = .ok (.iload_n 2, 1) := by decide +kernel
theorem dX10_fights_202 : decode cX10_fights 202 = .ok (.iaload, 1) := by decide +kernel
theorem dX10_fights_203 : decode cX10_fights 203 = .ok (.iastore, 1) := by decide +kernel
theorem dX10_fights_204 : decode cX10_fights 204 = .ok (.iinc 1 1, 3) := by decide +kernel
theorem dX10_fights_207 : decode cX10_fights 207 = .ok (.goto (-43), 3) := by decide +kernel
theorem dX10_fights_210 : decode cX10_fights 210 = .ok (.return_, 1) := by decide +kernel
theorem dX10_steps_0 : decode cX10_steps 0 = .ok (.iconst 0, 1) := by decide +kernel
theorem dX10_steps_1 : decode cX10_steps 1 = .ok (.istore_n 1, 1) := by decide +kernel
theorem dX10_steps_2 : decode cX10_steps 2 = .ok (.iload_n 1, 1) := by decide +kernel
theorem dX10_steps_3 : decode cX10_steps 3 = .ok (.aload_n 0, 1) := by decide +kernel
theorem dX10_steps_4 : decode cX10_steps 4 = .ok (.getfield 181, 3) := by decide +kernel
theorem dX10_steps_7 : decode cX10_steps 7 = .ok (.if_icmp .ge 19, 3) := by decide +kernel
theorem dX10_steps_10 : decode cX10_steps 10 = .ok (.aload_n 0, 1) := by decide +kernel
theorem dX10_steps_11 : decode cX10_steps 11 = .ok (.aload_n 0, 1) := by decide +kernel
theorem dX10_steps_12 : decode cX10_steps 12 = .ok (.getfield 44, 3) := by decide +kernel
theorem dX10_steps_15 : decode cX10_steps 15 = .ok (.iload_n 1, 1) := by decide +kernel
theorem dX10_steps_16 : decode cX10_steps 16 = .ok (.iaload, 1) := by decide +kernel
theorem dX10_steps_17 : decode cX10_steps 17 = .ok (.invokevirtual 197, 3) := by decide +kernel
theorem dX10_steps_20 : decode cX10_steps 20 = .ok (.iinc 1 1, 3) := by decide +kernel
theorem dX10_steps_23 : decode cX10_steps 23 = .ok (.goto (-21), 3) := by decide +kernel
theorem dX10_steps_26 : decode cX10_steps 26 = .ok (.aload_n 0, 1) := by decide +kernel
theorem dX10_steps_27 : decode cX10_steps 27 = .ok (.invokevirtual 200, 3) := by decide +kernel
theorem dX10_steps_30 : decode cX10_steps 30 = .ok (.aload_n 0, 1) := by decide +kernel
theorem dX10_steps_31 : decode cX10_steps 31 = .ok (.dup, 1) := by decide +kernel
theorem dX10_steps_32 : decode cX10_steps 32 = .ok (.getfield 184, 3) := by decide +kernel
theorem dX10_steps_35 : decode cX10_steps 35 = .ok (.iconst 1, 1) := by decide +kernel
theorem dX10_steps_36 : decode cX10_steps 36 = .ok (.iadd, 1) := by decide +kernel
theorem dX10_steps_37 : decode cX10_steps 37 = .ok (.putfield 184, 3) := by decide +kernel
theorem dX10_steps_40 : decode cX10_steps 40 = .ok (.aload_n 0, 1) := by decide +kernel
theorem dX10_steps_41 : decode cX10_steps 41 = .ok (.getfield 7, 3) := by decide +kernel
theorem dX10_steps_44 : decode cX10_steps 44 = .ok (.bipush 43, 2) := by decide +kernel
theorem dX10_steps_46 : decode cX10_steps 46 = .ok (.iaload, 1) := by decide +kernel
theorem dX10_steps_47 : decode cX10_steps 47 = .ok (.ifCond .le 22, 3) := by decide +kernel
theorem dX10_steps_50 : decode cX10_steps 50 = .ok (.aload_n 0, 1) := by decide +kernel
theorem dX10_steps_51 : decode cX10_steps 51 = .ok (.getfield 184, 3) := by decide +kernel
theorem dX10_steps_54 : decode cX10_steps 54 = .ok (.aload_n 0, 1) := by decide +kernel
theorem dX10_steps_55 : decode cX10_steps 55 = .ok (.getfield 7, 3) := by decide +kernel
theorem dX10_steps_58 : decode cX10_steps 58 = .ok (.bipush 43, 2) := by decide +kernel
theorem dX10_steps_60 : decode cX10_steps 60 = .ok (.iaload, 1) := by decide +kernel
theorem dX10_steps_61 : decode cX10_steps 61 = .ok (.irem, 1) := by decide +kernel
theorem dX10_steps_62 : decode cX10_steps 62 = .ok (.ifCond .ne 7, 3) := by decide +kernel
theorem dX10_steps_65 : decode cX10_steps 65 = .ok (.iconst 1, 1) := by decide +kernel
theorem dX10_steps_66 : decode cX10_steps 66 = .ok (.goto 4, 3) := by decide +kernel
theorem dX10_steps_69 : decode cX10_steps 69 = .ok (.iconst 0, 1) := by decide +kernel
theorem dX10_steps_70 : decode cX10_steps 70 = .ok (.istore_n 1, 1) := by decide +kernel
theorem dX10_steps_71 : decode cX10_steps 71 = .ok (.iconst 0, 1) := by decide +kernel
theorem dX10_steps_72 : decode cX10_steps 72 = .ok (.istore_n 2, 1) := by decide +kernel
theorem dX10_steps_73 : decode cX10_steps 73 = .ok (.iload_n 2, 1) := by decide +kernel
theorem dX10_steps_74 : decode cX10_steps 74 = .ok (.aload_n 0, 1) := by decide +kernel
theorem dX10_steps_75 : decode cX10_steps 75 = .ok (.getfield 7, 3) := by decide +kernel
theorem dX10_steps_78 : decode cX10_steps 78 = .ok (.bipush 8, 2) := by decide +kernel
theorem dX10_steps_80 : decode cX10_steps 80 = .ok (.iaload, 1) := by decide +kernel
theorem dX10_steps_81 : decode cX10_steps 81 = .ok (.if_icmp .ge 57, 3) := by decide +kernel
theorem dX10_steps_84 : decode cX10_steps 84 = .ok (.aload_n 0, 1) := by decide +kernel
theorem dX10_steps_85 : decode cX10_steps 85 = .ok (.getfield 29, 3) := by decide +kernel
theorem dX10_steps_88 : decode cX10_steps 88 = .ok (.iload_n 2, 1) := by decide +kernel
theorem dX10_steps_89 : decode cX10_steps 89 = .ok (.iload_n 1, 1) := by decide +kernel
theorem dX10_steps_90 : decode cX10_steps 90 = .ok (.ifCond .eq 35, 3) := by decide +kernel
theorem dX10_steps_93 : decode cX10_steps 93 = .ok (.aload_n 0, 1) := by decide +kernel
theorem dX10_steps_94 : decode cX10_steps 94 = .ok (.getfield 29, 3) := by decide +kernel
theorem dX10_steps_97 : decode cX10_steps 97 = .ok (.iload_n 2, 1) := by decide +kernel
theorem dX10_steps_98 : decode cX10_steps 98 = .ok (.iaload, 1) := by decide +kernel
theorem dX10_steps_99 : decode cX10_steps 99 = .ok (.bipush 8, 2) := by decide +kernel
theorem dX10_steps_101 : decode cX10_steps 101 = .ok (.if_icmp .ge 24, 3) := by decide +kernel
theorem dX10_steps_104 : decode cX10_steps 104 = .ok (.aload_n 0, 1) := by decide +kernel
theorem dX10_steps_105 : decode cX10_steps 105 = .ok (.getfield 29, 3) := by decide +kernel
theorem dX10_steps_108 : decode cX10_steps 108 = .ok (.iload_n 2, 1) := by decide +kernel
theorem dX10_steps_109 : decode cX10_steps 109 = .ok (.iaload, 1) := by decide +kernel
theorem dX10_steps_110 : decode cX10_steps 110 = .ok (.aload_n 0, 1) := by decide +kernel
theorem dX10_steps_111 : decode cX10_steps 111 = .ok (.getfield 7, 3) := by decide +kernel
theorem dX10_steps_114 : decode cX10_steps 114 = .ok (.bipush 44, 2) := by decide +kernel
theorem dX10_steps_116 : decode cX10_steps 116 = .ok (.iaload, 1) := by decide +kernel
theorem dX10_steps_117 : decode cX10_steps 117 = .ok (.if_icmp .ge 8, 3) := by decide +kernel
theorem dX10_steps_120 : decode cX10_steps 120 = .ok (.bipush 30, 2) := by decide +kernel
theorem dX10_steps_122 : decode cX10_steps 122 = .ok (.goto 9, 3) := by decide +kernel
theorem dX10_steps_125 : decode cX10_steps 125 = .ok (.aload_n 0, 1) := by decide +kernel
theorem dX10_steps_126 : decode cX10_steps 126 = .ok (.getfield 29, 3) := by decide +kernel
theorem dX10_steps_129 : decode cX10_steps 129 = .ok (.iload_n 2, 1) := by decide +kernel
theorem dX10_steps_130 : decode cX10_steps 130 = .ok (.iaload, 1) := by decide +kernel
theorem dX10_steps_131 : decode cX10_steps 131 = .ok (.iastore, 1) := by decide +kernel
theorem dX10_steps_132 : decode cX10_steps 132 = .ok (.iinc 2 1, 3) := by decide +kernel
theorem dX10_steps_135 : decode cX10_steps 135 = .ok (.goto (-62), 3) := by decide +kernel
theorem dX10_steps_138 : decode cX10_steps 138 = .ok (.return_, 1) := by decide +kernel
theorem dX10_rightPlace_0 : decode cX10_rightPlace 0 = .ok (.bipush (-4), 2) := by decide +kernel
theorem dX10_rightPlace_2 : decode cX10_rightPlace 2 = .ok (.istore_n 2, 1) := by decide +kernel
theorem dX10_rightPlace_3 : decode cX10_rightPlace 3 = .ok (.iconst 0, 1) := by decide +kernel
theorem dX10_rightPlace_4 : decode cX10_rightPlace 4 = .ok (.istore_n 3, 1) := by decide +kernel
theorem dX10_rightPlace_5 : decode cX10_rightPlace 5 = .ok (.iload_n 3, 1) := by decide +kernel
theorem dX10_rightPlace_6 : decode cX10_rightPlace 6 = .ok (.aload_n 0, 1) := by decide +kernel
theorem dX10_rightPlace_7 : decode cX10_rightPlace 7 = .ok (.getfield 84, 3) := by decide +kernel
theorem dX10_rightPlace_10 : decode cX10_rightPlace 10 = .ok (.if_icmp .ge 75, 3) := by decide +kernel
theorem dX10_rightPlace_13 : decode cX10_rightPlace 13 = .ok (.aload_n 0, 1) := by decide +kernel
theorem dX10_rightPlace_14 : decode cX10_rightPlace 14 = .ok (.getfield 23, 3) := by decide +kernel
theorem dX10_rightPlace_17 : decode cX10_rightPlace 17 = .ok (.iload_n 3, 1) := by decide +kernel
theorem dX10_rightPlace_18 : decode cX10_rightPlace 18 = .ok (.iaload, 1) := by decide +kernel
theorem dX10_rightPlace_19 : decode cX10_rightPlace 19 = .ok (.ifCond .le 25, 3) := by decide +kernel
theorem dX10_rightPlace_22 : decode cX10_rightPlace 22 = .ok (.aload_n 0, 1) := by decide +kernel
theorem dX10_rightPlace_23 : decode cX10_rightPlace 23 = .ok (.getfield 23, 3) := by decide +kernel
theorem dX10_rightPlace_26 : decode cX10_rightPlace 26 = .ok (.iload_n 3, 1) := by decide +kernel
theorem dX10_rightPlace_27 : decode cX10_rightPlace 27 = .ok (.iaload, 1) := by decide +kernel
theorem dX10_rightPlace_28 : decode cX10_rightPlace 28 = .ok (.aload_n 0, 1) := by decide +kernel
theorem dX10_rightPlace_29 : decode cX10_rightPlace 29 = .ok (.getfield 7, 3) := by decide +kernel
theorem dX10_rightPlace_32 : decode cX10_rightPlace 32 = .ok (.bipush 9, 2) := by decide +kernel
theorem dX10_rightPlace_34 : decode cX10_rightPlace 34 = .ok (.iload_n 1, 1) := by decide +kernel
theorem dX10_rightPlace_35 : decode cX10_rightPlace 35 = .ok (.iadd, 1) := by decide +kernel
theorem dX10_rightPlace_36 : decode cX10_rightPlace 36 = .ok (.iaload, 1) := by decide +kernel
theorem dX10_rightPlace_37 : decode cX10_rightPlace 37 = .ok (.if_icmp .lt 7, 3) := by decide +kernel
theorem dX10_rightPlace_40 : decode cX10_rightPlace 40 = .ok (.iconst 1, 1) := by decide +kernel
theorem dX10_rightPlace_41 : decode cX10_rightPlace 41 = .ok (.goto 4, 3) := by decide +kernel
theorem dX10_rightPlace_44 : decode cX10_rightPlace 44 = .ok (.iconst 0, 1) := by decide +kernel
theorem dX10_rightPlace_45 : decode cX10_rightPlace 45 = .ok (.istore 4, 2) := by decide +kernel
theorem dX10_rightPlace_47 : decode cX10_rightPlace 47 = .ok (.iload 4, 2) := by decide +kernel
theorem dX10_rightPlace_49 : decode cX10_rightPlace 49 = .ok (.ifCond .eq 28, 3) := by decide +kernel
theorem dX10_rightPlace_52 : decode cX10_rightPlace 52 = .ok (.iload_n 2, 1) := by decide +kernel
theorem dX10_rightPlace_53 : decode cX10_rightPlace 53 = .ok (.bipush (-4), 2) := by decide +kernel
theorem dX10_rightPlace_55 : decode cX10_rightPlace 55 = .ok (.if_icmp .eq 18, 3) := by decide +kernel
theorem dX10_rightPlace_58 : decode cX10_rightPlace 58 = .ok (.aload_n 0, 1) := by decide +kernel
theorem dX10_rightPlace_59 : decode cX10_rightPlace 59 = .ok (.getfield 23, 3) := by decide +kernel
theorem dX10_rightPlace_62 : decode cX10_rightPlace 62 = .ok (.iload_n 3, 1) := by decide +kernel
theorem dX10_rightPlace_63 : decode cX10_rightPlace 63 = .ok (.iaload, 1) := by decide +kernel
theorem dX10_rightPlace_64 : decode cX10_rightPlace 64 = .ok (.aload_n 0, 1) := by decide +kernel
theorem dX10_rightPlace_65 : decode cX10_rightPlace 65 = .ok (.getfield 23, 3) := by decide +kernel
theorem dX10_rightPlace_68 : decode cX10_rightPlace 68 = .ok (.iload_n 2, 1) := by decide +kernel
theorem dX10_rightPlace_69 : decode cX10_rightPlace 69 = .ok (.iaload, 1) := by decide +kernel
theorem dX10_rightPlace_70 : decode cX10_rightPlace 70 = .ok (.if_icmp .ge 7, 3) := by decide +kernel
theorem dX10_rightPlace_73 : decode cX10_rightPlace 73 = .ok (.iload_n 3, 1) := by decide +kernel
theorem dX10_rightPlace_74 : decode cX10_rightPlace 74 = .ok (.goto 4, 3) := by decide +kernel
theorem dX10_rightPlace_77 : decode cX10_rightPlace 77 = .ok (.iload_n 2, 1) := by decide +kernel
theorem dX10_rightPlace_78 : decode cX10_rightPlace 78 = .ok (.istore_n 2, 1) := by decide +kernel
theorem dX10_rightPlace_79 : decode cX10_rightPlace 79 = .ok (.iinc 3 1, 3) := by decide +kernel
theorem dX10_rightPlace_82 : decode cX10_rightPlace 82 = .ok (.goto (-77), 3) := by decide +kernel
theorem dX10_rightPlace_85 : decode cX10_rightPlace 85 = .ok (.iload_n 2, 1) := by decide +kernel
theorem dX10_rightPlace_86 : decode cX10_rightPlace 86 = .ok (.ireturn, 1) := by decide +kernel
theorem dX10_isRight_0 : decode cX10_isRight 0 = .ok (.aload_n 0, 1) := by decide +kernel
theorem dX10_isRight_1 : decode cX10_isRight 1 = .ok (.iload_n 1, 1) := by decide +kernel
theorem dX10_isRight_2 : decode cX10_isRight 2 = .ok (.invokevirtual 203, 3) := by decide +kernel
theorem dX10_isRight_5 : decode cX10_isRight 5 = .ok (.istore_n 2, 1) := by decide +kernel
theorem dX10_isRight_6 : decode cX10_isRight 6 = .ok (.aload_n 0, 1) := by decide +kernel
theorem dX10_isRight_7 : decode cX10_isRight 7 = .ok (.getfield 26, 3) := by decide +kernel
theorem dX10_isRight_10 : decode cX10_isRight 10 = .ok (.iload_n 1, 1) := by decide +kernel
theorem dX10_isRight_11 : decode cX10_isRight 11 = .ok (.iaload, 1) := by decide +kernel
theorem dX10_isRight_12 : decode cX10_isRight 12 = .ok (.iconst 1, 1) := by decide +kernel
theorem dX10_isRight_13 : decode cX10_isRight 13 = .ok (.if_icmp .eq 22, 3) := by decide +kernel
theorem dX10_isRight_16 : decode cX10_isRight 16 = .ok (.iload_n 2, 1) := by decide +kernel
theorem dX10_isRight_17 : decode cX10_isRight 17 = .ok (.bipush (-4), 2) := by decide +kernel
theorem dX10_isRight_19 : decode cX10_isRight 19 = .ok (.if_icmp .eq 16, 3) := by decide +kernel
theorem dX10_isRight_22 : decode cX10_isRight 22 = .ok (.aload_n 0, 1) := by decide +kernel
theorem dX10_isRight_23 : decode cX10_isRight 23 = .ok (.getfield 29, 3) := by decide +kernel
theorem dX10_isRight_26 : decode cX10_isRight 26 = .ok (.iload_n 1, 1) := by decide +kernel
theorem dX10_isRight_27 : decode cX10_isRight 27 = .ok (.iaload, 1) := by decide +kernel
theorem dX10_isRight_28 : decode cX10_isRight 28 = .ok (.bipush 20, 2) := by decide +kernel
theorem dX10_isRight_30 : decode cX10_isRight 30 = .ok (.iload_n 2, 1) := by decide +kernel
theorem dX10_isRight_31 : decode cX10_isRight 31 = .ok (.iadd, 1) := by decide +kernel
theorem dX10_isRight_32 : decode cX10_isRight 32 = .ok (.if_icmp .ne 7, 3) := by decide +kernel
theorem dX10_isRight_35 : decode cX10_isRight 35 = .ok (.iconst 1, 1) := by decide +kernel
theorem dX10_isRight_36 : decode cX10_isRight 36 = .ok (.goto 4, 3) := by decide +kernel
theorem dX10_isRight_39 : decode cX10_isRight 39 = .ok (.iconst 0, 1) := by decide +kernel
theorem dX10_isRight_40 : decode cX10_isRight 40 = .ok (.ireturn, 1) := by decide +kernel
theorem dX10_rightMany_0 : decode cX10_rightMany 0 = .ok (.iconst 0, 1) := by decide +kernel
theorem dX10_rightMany_1 : decode cX10_rightMany 1 = .ok (.istore_n 1, 1) := by decide +kernel
theorem dX10_rightMany_2 : decode cX10_rightMany 2 = .ok (.iconst 0, 1) := by decide +kernel
theorem dX10_rightMany_3 : decode cX10_rightMany 3 = .ok (.istore_n 2, 1) := by decide +kernel
theorem dX10_rightMany_4 : decode cX10_rightMany 4 = .ok (.iload_n 2, 1) := by decide +kernel
theorem dX10_rightMany_5 : decode cX10_rightMany 5 = .ok (.aload_n 0, 1) := by decide +kernel
theorem dX10_rightMany_6 : decode cX10_rightMany 6 = .ok (.getfield 7, 3) := by decide +kernel
theorem dX10_rightMany_9 : decode cX10_rightMany 9 = .ok (.bipush 8, 2) := by decide +kernel
theorem dX10_rightMany_11 : decode cX10_rightMany 11 = .ok (.iaload, 1) := by decide +kernel
theorem dX10_rightMany_12 : decode cX10_rightMany 12 = .ok (.if_icmp .ge 20, 3) := by decide +kernel
theorem dX10_rightMany_15 : decode cX10_rightMany 15 = .ok (.iload_n 1, 1) := by decide +kernel
theorem dX10_rightMany_16 : decode cX10_rightMany 16 = .ok (.aload_n 0, 1) := by decide +kernel
theorem dX10_rightMany_17 : decode cX10_rightMany 17 = .ok (.iload_n 2, 1) := by decide +kernel
theorem dX10_rightMany_18 : decode cX10_rightMany 18 = .ok (.invokevirtual 206, 3) := by decide +kernel
theorem dX10_rightMany_21 : decode cX10_rightMany 21 = .ok (.invokestatic 158, 3) := by decide +kernel
theorem dX10_rightMany_24 : decode cX10_rightMany 24 = .ok (.iadd, 1) := by decide +kernel
theorem dX10_rightMany_25 : decode cX10_rightMany 25 = .ok (.istore_n 1, 1) := by decide +kernel
theorem dX10_rightMany_26 : decode cX10_rightMany 26 = .ok (.iinc 2 1, 3) := by decide +kernel
theorem dX10_rightMany_29 : decode cX10_rightMany 29 = .ok (.goto (-25), 3) := by decide +kernel
theorem dX10_rightMany_32 : decode cX10_rightMany 32 = .ok (.iload_n 1, 1) := by decide +kernel
theorem dX10_rightMany_33 : decode cX10_rightMany 33 = .ok (.ireturn, 1) := by decide +kernel
theorem dX10_sortedBehind_0 : decode cX10_sortedBehind 0 = .ok (.iconst 0, 1) := by decide +kernel
theorem dX10_sortedBehind_1 : decode cX10_sortedBehind 1 = .ok (.istore_n 1, 1) := by decide +kernel
theorem dX10_sortedBehind_2 : decode cX10_sortedBehind 2 = .ok (.iload_n 1, 1) := by decide +kernel
theorem dX10_sortedBehind_3 : decode cX10_sortedBehind 3 = .ok (.bipush 40, 2) := by decide +kernel
theorem dX10_sortedBehind_5 : decode cX10_sortedBehind 5 = .ok (.if_icmp .gt 29, 3) := by decide +kernel
theorem dX10_sortedBehind_8 : decode cX10_sortedBehind 8 = .ok (.aload_n 0, 1) := by decide +kernel
theorem dX10_sortedBehind_9 : decode cX10_sortedBehind 9 = .ok (.invokevirtual 210, 3) := by decide +kernel
theorem dX10_sortedBehind_12 : decode cX10_sortedBehind 12 = .ok (.aload_n 0, 1) := by decide +kernel
theorem dX10_sortedBehind_13 : decode cX10_sortedBehind 13 = .ok (.getfield 7, 3) := by decide +kernel
theorem dX10_sortedBehind_16 : decode cX10_sortedBehind 16 = .ok (.bipush 8, 2) := by decide +kernel
theorem dX10_sortedBehind_18 : decode cX10_sortedBehind 18 = .ok (.iaload, 1) := by decide +kernel
theorem dX10_sortedBehind_19 : decode cX10_sortedBehind 19 = .ok (.if_icmp .ne 5, 3) := by decide +kernel
theorem dX10_sortedBehind_22 : decode cX10_sortedBehind 22 = .ok (.iload_n 1, 1) := by decide +kernel
theorem dX10_sortedBehind_23 : decode cX10_sortedBehind 23 = .ok (.ireturn, 1) := by decide +kernel
theorem dX10_sortedBehind_24 : decode cX10_sortedBehind 24 = .ok (.aload_n 0, 1) := by decide +kernel
theorem dX10_sortedBehind_25 : decode cX10_sortedBehind 25 = .ok (.invokevirtual 213, 3) := by decide +kernel
theorem dX10_sortedBehind_28 : decode cX10_sortedBehind 28 = .ok (.iinc 1 1, 3) := by decide +kernel
theorem dX10_sortedBehind_31 : decode cX10_sortedBehind 31 = .ok (.goto (-29), 3) := by decide +kernel
theorem dX10_sortedBehind_34 : decode cX10_sortedBehind 34 = .ok (.bipush (-4), 2) := by decide +kernel
theorem dX10_sortedBehind_36 : decode cX10_sortedBehind 36 = .ok (.ireturn, 1) := by decide +kernel
