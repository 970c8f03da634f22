theorem dX9_keep_0 : decode cX9_keep 0 = .ok (.iload_n 1, 1) := by decide +kernel
theorem dX9_keep_1 : decode cX9_keep 1 = .ok (.invokestatic 249, 3) := by decide +kernel
theorem dX9_keep_4 : decode cX9_keep 4 = .ok (.ifCond .ne 5, 3) := by decide +kernel
theorem dX9_keep_7 : decode cX9_keep 7 = .ok (.iconst (-1), 1) := by decide +kernel
theorem dX9_keep_8 : decode cX9_keep 8 = .ok (.ireturn, 1) := by decide +kernel
theorem dX9_keep_9 : decode cX9_keep 9 = .ok (.aload_n 0, 1) := by decide +kernel
theorem dX9_keep_10 : decode cX9_keep 10 = .ok (.getfield 47, 3) := by decide +kernel
theorem dX9_keep_13 : decode cX9_keep 13 = .ok (.iload_n 1, 1) := by decide +kernel
theorem dX9_keep_14 : decode cX9_keep 14 = .ok (.aaload, 1) := by decide +kernel
theorem dX9_keep_15 : decode cX9_keep 15 = .ok (.getfield 93, 3) := by decide +kernel
theorem dX9_keep_18 : decode cX9_keep 18 = .ok (.invokestatic 138, 3) := by decide +kernel
theorem dX9_keep_21 : decode cX9_keep 21 = .ok (.istore_n 2, 1) := by decide +kernel
theorem dX9_keep_22 : decode cX9_keep 22 = .ok (.aload_n 0, 1) := by decide +kernel
theorem dX9_keep_23 : decode cX9_keep 23 = .ok (.getfield 47, 3) := by decide +kernel
theorem dX9_keep_26 : decode cX9_keep 26 = .ok (.iload_n 1, 1) := by decide +kernel
theorem dX9_keep_27 : decode cX9_keep 27 = .ok (.aaload, 1) := by decide +kernel
theorem dX9_keep_28 : decode cX9_keep 28 = .ok (.aload_n 0, 1) := by decide +kernel
theorem dX9_keep_29 : decode cX9_keep 29 = .ok (.getfield 10, 3) := by decide +kernel
theorem dX9_keep_32 : decode cX9_keep 32 = .ok (.aload_n 0, 1) := by decide +kernel
theorem dX9_keep_33 : decode cX9_keep 33 = .ok (.getfield 22, 3) := by decide +kernel
theorem dX9_keep_36 : decode cX9_keep 36 = .ok (.invokevirtual 252, 3) := by decide +kernel
theorem dX9_keep_39 : decode cX9_keep 39 = .ok (.iload_n 2, 1) := by decide +kernel
theorem dX9_keep_40 : decode cX9_keep 40 = .ok (.ireturn, 1) := by decide +kernel
theorem dX9_back_0 : decode cX9_back 0 = .ok (.iload_n 1, 1) := by decide +kernel
theorem dX9_back_1 : decode cX9_back 1 = .ok (.invokestatic 249, 3) := by decide +kernel
theorem dX9_back_4 : decode cX9_back 4 = .ok (.ifCond .ne 5, 3) := by decide +kernel
theorem dX9_back_7 : decode cX9_back 7 = .ok (.iconst (-1), 1) := by decide +kernel
theorem dX9_back_8 : decode cX9_back 8 = .ok (.ireturn, 1) := by decide +kernel
theorem dX9_back_9 : decode cX9_back 9 = .ok (.aload_n 0, 1) := by decide +kernel
theorem dX9_back_10 : decode cX9_back 10 = .ok (.getfield 47, 3) := by decide +kernel
theorem dX9_back_13 : decode cX9_back 13 = .ok (.iload_n 1, 1) := by decide +kernel
theorem dX9_back_14 : decode cX9_back 14 = .ok (.aaload, 1) := by decide +kernel
theorem dX9_back_15 : decode cX9_back 15 = .ok (.getfield 93, 3) := by decide +kernel
theorem dX9_back_18 : decode cX9_back 18 = .ok (.ifCond .ne 6, 3) := by decide +kernel
theorem dX9_back_21 : decode cX9_back 21 = .ok (.bipush (-2), 2) := by decide +kernel
theorem dX9_back_23 : decode cX9_back 23 = .ok (.ireturn, 1) := by decide +kernel
theorem dX9_back_24 : decode cX9_back 24 = .ok (.aload_n 0, 1) := by decide +kernel
theorem dX9_back_25 : decode cX9_back 25 = .ok (.getfield 10, 3) := by decide +kernel
theorem dX9_back_28 : decode cX9_back 28 = .ok (.aload_n 0, 1) := by decide +kernel
theorem dX9_back_29 : decode cX9_back 29 = .ok (.getfield 47, 3) := by decide +kernel
theorem dX9_back_32 : decode cX9_back 32 = .ok (.iload_n 1, 1) := by decide +kernel
theorem dX9_back_33 : decode cX9_back 33 = .ok (.aaload, 1) := by decide +kernel
theorem dX9_back_34 : decode cX9_back 34 = .ok (.getfield 256, 3) := by decide +kernel
theorem dX9_back_37 : decode cX9_back 37 = .ok (.invokevirtual 86, 3) := by decide +kernel
theorem dX9_back_40 : decode cX9_back 40 = .ok (.aload_n 0, 1) := by decide +kernel
theorem dX9_back_41 : decode cX9_back 41 = .ok (.getfield 22, 3) := by decide +kernel
theorem dX9_back_44 : decode cX9_back 44 = .ok (.aload_n 0, 1) := by decide +kernel
theorem dX9_back_45 : decode cX9_back 45 = .ok (.getfield 47, 3) := by decide +kernel
theorem dX9_back_48 : decode cX9_back 48 = .ok (.iload_n 1, 1) := by decide +kernel
theorem dX9_back_49 : decode cX9_back 49 = .ok (.aaload, 1) := by decide +kernel
theorem dX9_back_50 : decode cX9_back 50 = .ok (.getfield 259, 3) := by decide +kernel
theorem dX9_back_53 : decode cX9_back 53 = .ok (.invokevirtual 260, 3) := by decide +kernel
theorem dX9_back_56 : decode cX9_back 56 = .ok (.aload_n 0, 1) := by decide +kernel
theorem dX9_back_57 : decode cX9_back 57 = .ok (.getfield 10, 3) := by decide +kernel
theorem dX9_back_60 : decode cX9_back 60 = .ok (.getfield 112, 3) := by decide +kernel
theorem dX9_back_63 : decode cX9_back 63 = .ok (.ireturn, 1) := by decide +kernel
theorem dX9_sheet_0 : decode cX9_sheet 0 = .ok (.iload_n 1, 1) := by decide +kernel
theorem dX9_sheet_1 : decode cX9_sheet 1 = .ok (.invokestatic 263, 3) := by decide +kernel
theorem dX9_sheet_4 : decode cX9_sheet 4 = .ok (.ifCond .eq 16, 3) := by decide +kernel
theorem dX9_sheet_7 : decode cX9_sheet 7 = .ok (.iload_n 2, 1) := by decide +kernel
theorem dX9_sheet_8 : decode cX9_sheet 8 = .ok (.invokestatic 266, 3) := by decide +kernel
theorem dX9_sheet_11 : decode cX9_sheet 11 = .ok (.ifCond .eq 9, 3) := by decide +kernel
theorem dX9_sheet_14 : decode cX9_sheet 14 = .ok (.iload_n 3, 1) := by decide +kernel
theorem dX9_sheet_15 : decode cX9_sheet 15 = .ok (.bipush 40, 2) := by decide +kernel
theorem dX9_sheet_17 : decode cX9_sheet 17 = .ok (.if_icmp .le 5, 3) := by decide +kernel
theorem dX9_sheet_20 : decode cX9_sheet 20 = .ok (.iconst (-1), 1) := by decide +kernel
theorem dX9_sheet_21 : decode cX9_sheet 21 = .ok (.ireturn, 1) := by decide +kernel
theorem dX9_sheet_22 : decode cX9_sheet 22 = .ok (.iload_n 3, 1) := by decide +kernel
theorem dX9_sheet_23 : decode cX9_sheet 23 = .ok (.ifCond .ge 6, 3) := by decide +kernel
theorem dX9_sheet_26 : decode cX9_sheet 26 = .ok (.bipush (-14), 2) := by decide +kernel
theorem dX9_sheet_28 : decode cX9_sheet 28 = .ok (.ireturn, 1) := by decide +kernel
theorem dX9_sheet_29 : decode cX9_sheet 29 = .ok (.aload_n 0, 1) := by decide +kernel
theorem dX9_sheet_30 : decode cX9_sheet 30 = .ok (.getfield 53, 3) := by decide +kernel
theorem dX9_sheet_33 : decode cX9_sheet 33 = .ok (.iload_n 1, 1) := by decide +kernel
theorem dX9_sheet_34 : decode cX9_sheet 34 = .ok (.aaload, 1) := by decide +kernel
theorem dX9_sheet_35 : decode cX9_sheet 35 = .ok (.iload_n 2, 1) := by decide +kernel
theorem dX9_sheet_36 : decode cX9_sheet 36 = .ok (.iload_n 3, 1) := by decide +kernel
theorem dX9_sheet_37 : decode cX9_sheet 37 = .ok (.invokevirtual 269, 3) := by decide +kernel
theorem dX9_sheet_40 : decode cX9_sheet 40 = .ok (.iconst 1, 1) := by decide +kernel
theorem dX9_sheet_41 : decode cX9_sheet 41 = .ok (.ireturn, 1) := by decide +kernel
theorem dX9_lay_0 : decode cX9_lay 0 = .ok (.iload_n 1, 1) := by decide +kernel
theorem dX9_lay_1 : decode cX9_lay 1 = .ok (.invokestatic 263, 3) := by decide +kernel
theorem dX9_lay_4 : decode cX9_lay 4 = .ok (.ifCond .ne 5, 3) := by decide +kernel
theorem dX9_lay_7 : decode cX9_lay 7 = .ok (.iconst (-1), 1) := by decide +kernel
theorem dX9_lay_8 : decode cX9_lay 8 = .ok (.ireturn, 1) := by decide +kernel
theorem dX9_lay_9 : decode cX9_lay 9 = .ok (.aload_n 0, 1) := by decide +kernel
theorem dX9_lay_10 : decode cX9_lay 10 = .ok (.getfield 53, 3) := by decide +kernel
theorem dX9_lay_13 : decode cX9_lay 13 = .ok (.iload_n 1, 1) := by decide +kernel
theorem dX9_lay_14 : decode cX9_lay 14 = .ok (.aaload, 1) := by decide +kernel
theorem dX9_lay_15 : decode cX9_lay 15 = .ok (.iload_n 2, 1) := by decide +kernel
theorem dX9_lay_16 : decode cX9_lay 16 = .ok (.invokevirtual 272, 3) := by decide +kernel
theorem dX9_lay_19 : decode cX9_lay 19 = .ok (.istore 4, 2) := by decide +kernel
theorem dX9_lay_21 : decode cX9_lay 21 = .ok (.iload 4, 2) := by decide +kernel
theorem dX9_lay_23 : decode cX9_lay 23 = .ok (.ifCond .eq 9, 3) := by decide +kernel
theorem dX9_lay_26 : decode cX9_lay 26 = .ok (.bipush (-10), 2) := by decide +kernel
theorem dX9_lay_28 : decode cX9_lay 28 = .ok (.iload 4, 2) := by decide +kernel
theorem dX9_lay_30 : decode cX9_lay 30 = .ok (.isub, 1) := by decide +kernel
theorem dX9_lay_31 : decode cX9_lay 31 = .ok (.ireturn, 1) := by decide +kernel
theorem dX9_lay_32 : decode cX9_lay 32 = .ok (.aload_n 0, 1) := by decide +kernel
theorem dX9_lay_33 : decode cX9_lay 33 = .ok (.getfield 53, 3) := by decide +kernel
theorem dX9_lay_36 : decode cX9_lay 36 = .ok (.iload_n 1, 1) := by decide +kernel
theorem dX9_lay_37 : decode cX9_lay 37 = .ok (.aaload, 1) := by decide +kernel
theorem dX9_lay_38 : decode cX9_lay 38 = .ok (.iload_n 2, 1) := by decide +kernel
theorem dX9_lay_39 : decode cX9_lay 39 = .ok (.iload_n 3, 1) := by decide +kernel
theorem dX9_lay_40 : decode cX9_lay 40 = .ok (.invokevirtual 275, 3) := by decide +kernel
theorem dX9_lay_43 : decode cX9_lay 43 = .ok (.iconst 1, 1) := by decide +kernel
theorem dX9_lay_44 : decode cX9_lay 44 = .ok (.ireturn, 1) := by decide +kernel
theorem dX9_read_0 : decode cX9_read 0 = .ok (.iload_n 1, 1) := by decide +kernel
theorem dX9_read_1 : decode cX9_read 1 = .ok (.invokestatic 263, 3) := by decide +kernel
theorem dX9_read_4 : decode cX9_read 4 = .ok (.ifCond .eq 21, 3) := by decide +kernel
theorem dX9_read_7 : decode cX9_read 7 = .ok (.iload_n 2, 1) := by decide +kernel
theorem dX9_read_8 : decode cX9_read 8 = .ok (.invokestatic 266, 3) := by decide +kernel
theorem dX9_read_11 : decode cX9_read 11 = .ok (.ifCond .eq 14, 3) := by decide +kernel
theorem dX9_read_14 : decode cX9_read 14 = .ok (.iload 4, 2) := by decide +kernel
theorem dX9_read_16 : decode cX9_read 16 = .ok (.iconst 0, 1) := by decide +kernel
theorem dX9_read_17 : decode cX9_read 17 = .ok (.bipush 13, 2) := by decide +kernel
theorem dX9_read_19 : decode cX9_read 19 = .ok (.invokestatic 69, 3) := by decide +kernel
theorem dX9_read_22 : decode cX9_read 22 = .ok (.ifCond .ne 5, 3) := by decide +kernel
theorem dX9_read_25 : decode cX9_read 25 = .ok (.iconst (-1), 1) := by decide +kernel
theorem dX9_read_26 : decode cX9_read 26 = .ok (.ireturn, 1) := by decide +kernel
theorem dX9_read_27 : decode cX9_read 27 = .ok (.aload_n 0, 1) := by decide +kernel
theorem dX9_read_28 : decode cX9_read 28 = .ok (.getfield 53, 3) := by decide +kernel
theorem dX9_read_31 : decode cX9_read 31 = .ok (.iload_n 1, 1) := by decide +kernel
theorem dX9_read_32 : decode cX9_read 32 = .ok (.aaload, 1) := by decide +kernel
theorem dX9_read_33 : decode cX9_read 33 = .ok (.astore 5, 2) := by decide +kernel
theorem dX9_read_35 : decode cX9_read 35 = .ok (.aload_n 0, 1) := by decide +kernel
theorem dX9_read_36 : decode cX9_read 36 = .ok (.getfield 10, 3) := by decide +kernel
theorem dX9_read_39 : decode cX9_read 39 = .ok (.getfield 100, 3) := by decide +kernel
theorem dX9_read_42 : decode cX9_read 42 = .ok (.istore 6, 2) := by decide +kernel
theorem dX9_read_44 : decode cX9_read 44 = .ok (.iconst 0, 1) := by decide +kernel
theorem dX9_read_45 : decode cX9_read 45 = .ok (.istore 7, 2) := by decide +kernel
theorem dX9_read_47 : decode cX9_read 47 = .ok (.iconst 0, 1) := by decide +kernel
theorem dX9_read_48 : decode cX9_read 48 = .ok (.istore 8, 2) := by decide +kernel
theorem dX9_read_50 : decode cX9_read 50 = .ok (.iload 7, 2) := by decide +kernel
theorem dX9_read_52 : decode cX9_read 52 = .ok (.ifCond .ne 79, 3) := by decide +kernel
theorem dX9_read_55 : decode cX9_read 55 = .ok (.iload 8, 2) := by decide +kernel
theorem dX9_read_57 : decode cX9_read 57 = .ok (.iload 4, 2) := by decide +kernel
theorem dX9_read_59 : decode cX9_read 59 = .ok (.if_icmp .ge 72, 3) := by decide +kernel
theorem dX9_read_62 : decode cX9_read 62 = .ok (.iload_n 3, 1) := by decide +kernel
theorem dX9_read_63 : decode cX9_read 63 = .ok (.iconst 2, 1) := by decide +kernel
theorem dX9_read_64 : decode cX9_read 64 = .ok (.iload 8, 2) := by decide +kernel
theorem dX9_read_66 : decode cX9_read 66 = .ok (.imul, 1) := by decide +kernel
theorem dX9_read_67 : decode cX9_read 67 = .ok (.iadd, 1) := by decide +kernel
theorem dX9_read_68 : decode cX9_read 68 = .ok (.istore 9, 2) := by decide +kernel
theorem dX9_read_70 : decode cX9_read 70 = .ok (.aload 5, 2) := by decide +kernel
theorem dX9_read_72 : decode cX9_read 72 = .ok (.iload_n 2, 1) := by decide +kernel
theorem dX9_read_73 : decode cX9_read 73 = .ok (.iload 9, 2) := by decide +kernel
theorem dX9_read_75 : decode cX9_read 75 = .ok (.invokevirtual 278, 3) := by decide +kernel
theorem dX9_read_78 : decode cX9_read 78 = .ok (.istore 7, 2) := by decide +kernel
theorem dX9_read_80 : decode cX9_read 80 = .ok (.iload 7, 2) := by decide +kernel
theorem dX9_read_82 : decode cX9_read 82 = .ok (.ifCond .ne 46, 3) := by decide +kernel
theorem dX9_read_85 : decode cX9_read 85 = .ok (.aload_n 0, 1) := by decide +kernel
theorem dX9_read_86 : decode cX9_read 86 = .ok (.aload 5, 2) := by decide +kernel
theorem dX9_read_88 : decode cX9_read 88 = .ok (.getfield 281, 3) := by decide +kernel
theorem dX9_read_91 : decode cX9_read 91 = .ok (.iload 9, 2) := by decide +kernel
theorem dX9_read_93 : decode cX9_read 93 = .ok (.iaload, 1) := by decide +kernel
theorem dX9_read_94 : decode cX9_read 94 = .ok (.aload 5, 2) := by decide +kernel
theorem dX9_read_96 : decode cX9_read 96 = .ok (.getfield 281, 3) := by decide +kernel
theorem dX9_read_99 : decode cX9_read 99 = .ok (.iload 9, 2) := by decide +kernel
theorem dX9_read_101 : decode cX9_read 101 = .ok (.iconst 1, 1) := by decide +kernel
theorem dX9_read_102 : decode cX9_read 102 = .ok (.iadd, 1) := by decide +kernel
theorem dX9_read_103 : decode cX9_read 103 = .ok (.iaload, 1) := by decide +kernel
theorem dX9_read_104 : decode cX9_read 104 = .ok (.invokevirtual 284, 3) := by decide +kernel
theorem dX9_read_107 : decode cX9_read 107 = .ok (.ifCond .ge 18, 3) := by decide +kernel
theorem dX9_read_110 : decode cX9_read 110 = .ok (.aload_n 0, 1) := by decide +kernel
theorem dX9_read_111 : decode cX9_read 111 = .ok (.getfield 10, 3) := by decide +kernel
theorem dX9_read_114 : decode cX9_read 114 = .ok (.iload 6, 2) := by decide +kernel
theorem dX9_read_116 : decode cX9_read 116 = .ok (.putfield 100, 3) := by decide +kernel
theorem dX9_read_119 : decode cX9_read 119 = .ok (.bipush (-20), 2) := by decide +kernel
theorem dX9_read_121 : decode cX9_read 121 = .ok (.iload 8, 2) := by decide +kernel
theorem dX9_read_123 : decode cX9_read 123 = .ok (.isub, 1) := by decide +kernel
theorem dX9_read_124 : decode cX9_read 124 = .ok (.ireturn, 1) := by decide +kernel
theorem dX9_read_125 : decode cX9_read 125 = .ok (.iinc 8 1, 3) := by decide +kernel
theorem dX9_read_128 : decode cX9_read 128 = .ok (.goto (-78), 3) := by decide +kernel
theorem dX9_read_131 : decode cX9_read 131 = .ok (.aload_n 0, 1) := by decide +kernel
theorem dX9_read_132 : decode cX9_read 132 = .ok (.iload 7, 2) := by decide +kernel
theorem dX9_read_134 : decode cX9_read 134 = .ok (.putfield 287, 3) := by decide +kernel
theorem dX9_read_137 : decode cX9_read 137 = .ok (.iload 8, 2) := by decide +kernel
theorem dX9_read_139 : decode cX9_read 139 = .ok (.ireturn, 1) := by decide +kernel
theorem dX9_torn_0 : decode cX9_torn 0 = .ok (.aload_n 0, 1) := by decide +kernel
theorem dX9_torn_1 : decode cX9_torn 1 = .ok (.getfield 287, 3) := by decide +kernel
theorem dX9_torn_4 : decode cX9_torn 4 = .ok (.ireturn, 1) := by decide +kernel
theorem dX9_count_0 : decode cX9_count 0 = .ok (.iload_n 1, 1) := by decide +kernel
theorem dX9_count_1 : decode cX9_count 1 = .ok (.tableswitch 176 0 8 #[51, 62, 74, 86, 98, 106, 114, 140, 148], 51) := by decide +kernel
theorem dX9_count_52 : decode cX9_count 52 = .ok (.aload_n 0, 1) := by decide +kernel
theorem dX9_count_53 : decode cX9_count 53 = .ok (.getfield 10, 3) := by decide +kernel
theorem dX9_count_56 : decode cX9_count 56 = .ok (.iconst 0, 1) := by decide +kernel
theorem dX9_count_57 : decode cX9_count 57 = .ok (.bipush 7, 2) := by decide +kernel
theorem dX9_count_59 : decode cX9_count 59 = .ok (.invokevirtual 177, 3) := by decide +kernel
theorem dX9_count_62 : decode cX9_count 62 = .ok (.ireturn, 1) := by decide +kernel
theorem dX9_count_63 : decode cX9_count 63 = .ok (.aload_n 0, 1) := by decide +kernel
theorem dX9_count_64 : decode cX9_count 64 = .ok (.getfield 10, 3) := by decide +kernel
theorem dX9_count_67 : decode cX9_count 67 = .ok (.bipush 10, 2) := by decide +kernel
theorem dX9_count_69 : decode cX9_count 69 = .ok (.bipush 13, 2) := by decide +kernel
theorem dX9_count_71 : decode cX9_count 71 = .ok (.invokevirtual 177, 3) := by decide +kernel
theorem dX9_count_74 : decode cX9_count 74 = .ok (.ireturn, 1) := by decide +kernel
theorem dX9_count_75 : decode cX9_count 75 = .ok (.aload_n 0, 1) := by decide +kernel
theorem dX9_count_76 : decode cX9_count 76 = .ok (.getfield 10, 3) := by decide +kernel
theorem dX9_count_79 : decode cX9_count 79 = .ok (.bipush 20, 2) := by decide +kernel
theorem dX9_count_81 : decode cX9_count 81 = .ok (.bipush 27, 2) := by decide +kernel
theorem dX9_count_83 : decode cX9_count 83 = .ok (.invokevirtual 177, 3) := by decide +kernel
theorem dX9_count_86 : decode cX9_count 86 = .ok (.ireturn, 1) := by decide +kernel
theorem dX9_count_87 : decode cX9_count 87 = .ok (.aload_n 0, 1) := by decide +kernel
theorem dX9_count_88 : decode cX9_count 88 = .ok (.getfield 10, 3) := by decide +kernel
theorem dX9_count_91 : decode cX9_count 91 = .ok (.bipush 30, 2) := by decide +kernel
theorem dX9_count_93 : decode cX9_count 93 = .ok (.bipush 30, 2) := by decide +kernel
theorem dX9_count_95 : decode cX9_count 95 = .ok (.invokevirtual 177, 3) := by decide +kernel
theorem dX9_count_98 : decode cX9_count 98 = .ok (.ireturn, 1) := by decide +kernel
theorem dX9_count_99 : decode cX9_count 99 = .ok (.aload_n 0, 1) := by decide +kernel
theorem dX9_count_100 : decode cX9_count 100 = .ok (.getfield 10, 3) := by decide +kernel
theorem dX9_count_103 : decode cX9_count 103 = .ok (.invokevirtual 192, 3) := by decide +kernel
theorem dX9_count_106 : decode cX9_count 106 = .ok (.ireturn, 1) := by decide +kernel
theorem dX9_count_107 : decode cX9_count 107 = .ok (.aload_n 0, 1) := by decide +kernel
theorem dX9_count_108 : decode cX9_count 108 = .ok (.getfield 22, 3) := by decide +kernel
theorem dX9_count_111 : decode cX9_count 111 = .ok (.getfield 90, 3) := by decide +kernel
theorem dX9_count_114 : decode cX9_count 114 = .ok (.ireturn, 1) := by decide +kernel
theorem dX9_count_115 : decode cX9_count 115 = .ok (.aload_n 0, 1) := by decide +kernel
theorem dX9_count_116 : decode cX9_count 116 = .ok (.getfield 47, 3) := by decide +kernel
theorem dX9_count_119 : decode cX9_count 119 = .ok (.iconst 0, 1) := by decide +kernel
theorem dX9_count_120 : decode cX9_count 120 = .ok (.aaload, 1) := by decide +kernel
theorem dX9_count_121 : decode cX9_count 121 = .ok (.getfield 93, 3) := by decide +kernel
theorem dX9_count_124 : decode cX9_count 124 = .ok (.invokestatic 138, 3) := by decide +kernel
theorem dX9_count_127 : decode cX9_count 127 = .ok (.aload_n 0, 1) := by decide +kernel
theorem dX9_count_128 : decode cX9_count 128 = .ok (.getfield 47, 3) := by decide +kernel
theorem dX9_count_131 : decode cX9_count 131 = .ok (.iconst 1, 1) := by decide +kernel
theorem dX9_count_132 : decode cX9_count 132 = .ok (.aaload, 1) := by decide +kernel
theorem dX9_count_133 : decode cX9_count 133 = .ok (.getfield 93, 3) := by decide +kernel
theorem dX9_count_136 : decode cX9_count 136 = .ok (.invokestatic 138, 3) := by decide +kernel
theorem dX9_count_139 : decode cX9_count 139 = .ok (.iadd, 1) := by decide +kernel
theorem dX9_count_140 : decode cX9_count 140 = .ok (.ireturn, 1) := by decide +kernel
theorem dX9_count_141 : decode cX9_count 141 = .ok (.aload_n 0, 1) := by decide +kernel
theorem dX9_count_142 : decode cX9_count 142 = .ok (.getfield 44, 3) := by decide +kernel
theorem dX9_count_145 : decode cX9_count 145 = .ok (.getfield 59, 3) := by decide +kernel
theorem dX9_count_148 : decode cX9_count 148 = .ok (.ireturn, 1) := by decide +kernel
theorem dX9_count_149 : decode cX9_count 149 = .ok (.aload_n 0, 1) := by decide +kernel
theorem dX9_count_150 : decode cX9_count 150 = .ok (.getfield 53, 3) := by decide +kernel
theorem dX9_count_153 : decode cX9_count 153 = .ok (.iconst 0, 1) := by decide +kernel
theorem dX9_count_154 : decode cX9_count 154 = .ok (.aaload, 1) := by decide +kernel
theorem dX9_count_155 : decode cX9_count 155 = .ok (.getfield 290, 3) := by decide +kernel
theorem dX9_count_158 : decode cX9_count 158 = .ok (.iconst (-1), 1) := by decide +kernel
theorem dX9_count_159 : decode cX9_count 159 = .ok (.if_icmp .ne 8, 3) := by decide +kernel
theorem dX9_count_162 : decode cX9_count 162 = .ok (.bipush (-4), 2) := by decide +kernel
theorem dX9_count_164 : decode cX9_count 164 = .ok (.goto 12, 3) := by decide +kernel
theorem dX9_count_167 : decode cX9_count 167 = .ok (.aload_n 0, 1) := by decide +kernel
theorem dX9_count_168 : decode cX9_count 168 = .ok (.getfield 53, 3) := by decide +kernel
theorem dX9_count_171 : decode cX9_count 171 = .ok (.iconst 0, 1) := by decide +kernel
theorem dX9_count_172 : decode cX9_count 172 = .ok (.aaload, 1) := by decide +kernel
theorem dX9_count_173 : decode cX9_count 173 = .ok (.getfield 293, 3) := by decide +kernel
theorem dX9_count_176 : decode cX9_count 176 = .ok (.ireturn, 1) := by decide +kernel
theorem dX9_count_177 : decode cX9_count 177 = .ok (.iconst (-1), 1) := by decide +kernel
theorem dX9_count_178 : decode cX9_count 178 = .ok (.ireturn, 1) := by decide +kernel
theorem dX9_within_0 : decode cX9_within 0 = .ok (.iload_n 0, 1) := by decide +kernel
theorem dX9_within_1 : decode cX9_within 1 = .ok (.iload_n 1, 1) := by decide +kernel
theorem dX9_within_2 : decode cX9_within 2 = .ok (.if_icmp .lt 12, 3) := by decide +kernel
theorem dX9_within_5 : decode cX9_within 5 = .ok (.iload_n 0, 1) := by decide +kernel
theorem dX9_within_6 : decode cX9_within 6 = .ok (.iload_n 2, 1) := by decide +kernel
theorem dX9_within_7 : decode cX9_within 7 = .ok (.if_icmp .gt 7, 3) := by decide +kernel
theorem dX9_within_10 : decode cX9_within 10 = .ok (.iconst 1, 1) := by decide +kernel
theorem dX9_within_11 : decode cX9_within 11 = .ok (.goto 4, 3) := by decide +kernel
theorem dX9_within_14 : decode cX9_within 14 = .ok (.iconst 0, 1) := by decide +kernel
theorem dX9_within_15 : decode cX9_within 15 = .ok (.ireturn, 1) := by decide +kernel
theorem dX9_asNumber_0 : decode cX9_asNumber 0 = .ok (.iload_n 0, 1) := by decide +kernel
theorem dX9_asNumber_1 : decode cX9_asNumber 1 = .ok (.ifCond .eq 7, 3) := by decide +kernel
theorem dX9_asNumber_4 : decode cX9_asNumber 4 = .ok (.iconst 1, 1) := by decide +kernel
theorem dX9_asNumber_5 : decode cX9_asNumber 5 = .ok (.goto 4, 3) := by decide +kernel
theorem dX9_asNumber_8 : decode cX9_asNumber 8 = .ok (.iconst 0, 1) := by decide +kernel
theorem dX9_asNumber_9 : decode cX9_asNumber 9 = .ok (.ireturn, 1) := by decide +kernel
theorem dX9_isPlace_0 : decode cX9_isPlace 0 = .ok (.iload_n 1, 1) := by decide +kernel
theorem dX9_isPlace_1 : decode cX9_isPlace 1 = .ok (.iconst 0, 1) := by decide +kernel
theorem dX9_isPlace_2 : decode cX9_isPlace 2 = .ok (.aload_n 0, 1) := by decide +kernel
theorem dX9_isPlace_3 : decode cX9_isPlace 3 = .ok (.getfield 10, 3) := by decide +kernel
theorem dX9_isPlace_6 : decode cX9_isPlace 6 = .ok (.getfield 97, 3) := by decide +kernel
theorem dX9_isPlace_9 : decode cX9_isPlace 9 = .ok (.iconst 1, 1) := by decide +kernel
theorem dX9_isPlace_10 : decode cX9_isPlace 10 = .ok (.isub, 1) := by decide +kernel
theorem dX9_isPlace_11 : decode cX9_isPlace 11 = .ok (.invokestatic 69, 3) := by decide +kernel
theorem dX9_isPlace_14 : decode cX9_isPlace 14 = .ok (.ireturn, 1) := by decide +kernel
theorem dX9_isCoin_0 : decode cX9_isCoin 0 = .ok (.iload_n 1, 1) := by decide +kernel
theorem dX9_isCoin_1 : decode cX9_isCoin 1 = .ok (.iconst 0, 1) := by decide +kernel
theorem dX9_isCoin_2 : decode cX9_isCoin 2 = .ok (.aload_n 0, 1) := by decide +kernel
theorem dX9_isCoin_3 : decode cX9_isCoin 3 = .ok (.getfield 10, 3) := by decide +kernel
theorem dX9_isCoin_6 : decode cX9_isCoin 6 = .ok (.getfield 100, 3) := by decide +kernel
theorem dX9_isCoin_9 : decode cX9_isCoin 9 = .ok (.iconst 1, 1) := by decide +kernel
theorem dX9_isCoin_10 : decode cX9_isCoin 10 = .ok (.isub, 1) := by decide +kernel
theorem dX9_isCoin_11 : decode cX9_isCoin 11 = .ok (.invokestatic 69, 3) := by decide +kernel
theorem dX9_isCoin_14 : decode cX9_isCoin 14 = .ok (.ireturn, 1) := by decide +kernel
theorem dX9_isCrab_0 : decode cX9_isCrab 0 = .ok (.iload_n 1, 1) := by decide +kernel
theorem dX9_isCrab_1 : decode cX9_isCrab 1 = .ok (.iconst 0, 1) := by decide +kernel
theorem dX9_isCrab_2 : decode cX9_isCrab 2 = .ok (.aload_n 0, 1) := by decide +kernel
theorem dX9_isCrab_3 : decode cX9_isCrab 3 = .ok (.getfield 10, 3) := by decide +kernel
theorem dX9_isCrab_6 : decode cX9_isCrab 6 = .ok (.getfield 103, 3) := by decide +kernel
theorem dX9_isCrab_9 : decode cX9_isCrab 9 = .ok (.iconst 1, 1) := by decide +kernel
theorem dX9_isCrab_10 : decode cX9_isCrab 10 = .ok (.isub, 1) := by decide +kernel
theorem dX9_isCrab_11 : decode cX9_isCrab 11 = .ok (.invokestatic 69, 3) := by decide +kernel
theorem dX9_isCrab_14 : decode cX9_isCrab 14 = .ok (.ireturn, 1) := by decide +kernel
theorem dX9_isImage_0 : decode cX9_isImage 0 = .ok (.iload_n 0, 1) := by decide +kernel
theorem dX9_isImage_1 : decode cX9_isImage 1 = .ok (.iconst 0, 1) := by decide +kernel
theorem dX9_isImage_2 : decode cX9_isImage 2 = .ok (.iconst 1, 1) := by decide +kernel
theorem dX9_isImage_3 : decode cX9_isImage 3 = .ok (.invokestatic 69, 3) := by decide +kernel
theorem dX9_isImage_6 : decode cX9_isImage 6 = .ok (.ireturn, 1) := by decide +kernel
theorem dX9_isSheet_0 : decode cX9_isSheet 0 = .ok (.iload_n 0, 1) := by decide +kernel
theorem dX9_isSheet_1 : decode cX9_isSheet 1 = .ok (.iconst 0, 1) := by decide +kernel
theorem dX9_isSheet_2 : decode cX9_isSheet 2 = .ok (.iconst 3, 1) := by decide +kernel
theorem dX9_isSheet_3 : decode cX9_isSheet 3 = .ok (.invokestatic 69, 3) := by decide +kernel
theorem dX9_isSheet_6 : decode cX9_isSheet 6 = .ok (.ireturn, 1) := by decide +kernel
theorem dX9_isLane_0 : decode cX9_isLane 0 = .ok (.iload_n 0, 1) := by decide +kernel
theorem dX9_isLane_1 : decode cX9_isLane 1 = .ok (.iconst 0, 1) := by decide +kernel
theorem dX9_isLane_2 : decode cX9_isLane 2 = .ok (.iconst 2, 1) := by decide +kernel
theorem dX9_isLane_3 : decode cX9_isLane 3 = .ok (.invokestatic 69, 3) := by decide +kernel
theorem dX9_isLane_6 : decode cX9_isLane 6 = .ok (.ireturn, 1) := by decide +kernel
theorem dX9_isWhere_0 : decode cX9_isWhere 0 = .ok (.iload_n 0, 1) := by decide +kernel
theorem dX9_isWhere_1 : decode cX9_isWhere 1 = .ok (.iconst 0, 1) := by decide +kernel
theorem dX9_isWhere_2 : decode cX9_isWhere 2 = .ok (.bipush 7, 2) := by decide +kernel
theorem dX9_isWhere_4 : decode cX9_isWhere 4 = .ok (.invokestatic 69, 3) := by decide +kernel
theorem dX9_isWhere_7 : decode cX9_isWhere 7 = .ok (.ifCond .ne 31, 3) := by decide +kernel
theorem dX9_isWhere_10 : decode cX9_isWhere 10 = .ok (.iload_n 0, 1) := by decide +kernel
theorem dX9_isWhere_11 : decode cX9_isWhere 11 = .ok (.bipush 10, 2) := by decide +kernel
theorem dX9_isWhere_13 : decode cX9_isWhere 13 = .ok (.bipush 13, 2) := by decide +kernel
theorem dX9_isWhere_15 : decode cX9_isWhere 15 = .ok (.invokestatic 69, 3) := by decide +kernel
theorem dX9_isWhere_18 : decode cX9_isWhere 18 = .ok (.ifCond .ne 20, 3) := by decide +kernel
theorem dX9_isWhere_21 : decode cX9_isWhere 21 = .ok (.iload_n 0, 1) := by decide +kernel
theorem dX9_isWhere_22 : decode cX9_isWhere 22 = .ok (.bipush 20, 2) := by decide +kernel
theorem dX9_isWhere_24 : decode cX9_isWhere 24 = .ok (.bipush 27, 2) := by decide +kernel
theorem dX9_isWhere_26 : decode cX9_isWhere 26 = .ok (.invokestatic 69, 3) := by decide +kernel
theorem dX9_isWhere_29 : decode cX9_isWhere 29 = .ok (.ifCond .ne 9, 3) := by decide +kernel
theorem dX9_isWhere_32 : decode cX9_isWhere 32 = .ok (.iload_n 0, 1) := by decide +kernel
theorem dX9_isWhere_33 : decode cX9_isWhere 33 = .ok (.bipush 30, 2) := by decide +kernel
theorem dX9_isWhere_35 : decode cX9_isWhere 35 = .ok (.if_icmp .ne 7, 3) := by decide +kernel
theorem dX9_isWhere_38 : decode cX9_isWhere 38 = .ok (.iconst 1, 1) := by decide +kernel
theorem dX9_isWhere_39 : decode cX9_isWhere 39 = .ok (.goto 4, 3) := by decide +kernel
theorem dX9_isWhere_42 : decode cX9_isWhere 42 = .ok (.iconst 0, 1) := by decide +kernel
theorem dX9_isWhere_43 : decode cX9_isWhere 43 = .ok (.ireturn, 1) := by decide +kernel
theorem dX9_isSortedBy_0 : decode cX9_isSortedBy 0 = .ok (.aload_n 0, 1) := by decide +kernel
theorem dX9_isSortedBy_1 : decode cX9_isSortedBy 1 = .ok (.getfield 16, 3) := by decide +kernel
theorem dX9_isSortedBy_4 : decode cX9_isSortedBy 4 = .ok (.aload_n 0, 1) := by decide +kernel
theorem dX9_isSortedBy_5 : decode cX9_isSortedBy 5 = .ok (.getfield 10, 3) := by decide +kernel
theorem dX9_isSortedBy_8 : decode cX9_isSortedBy 8 = .ok (.invokevirtual 86, 3) := by decide +kernel
theorem dX9_isSortedBy_11 : decode cX9_isSortedBy 11 = .ok (.aload_n 0, 1) := by decide +kernel
theorem dX9_isSortedBy_12 : decode cX9_isSortedBy 12 = .ok (.getfield 16, 3) := by decide +kernel
theorem dX9_isSortedBy_15 : decode cX9_isSortedBy 15 = .ok (.iload_n 1, 1) := by decide +kernel
theorem dX9_isSortedBy_16 : decode cX9_isSortedBy 16 = .ok (.invokevirtual 294, 3) := by decide +kernel
theorem dX9_isSortedBy_19 : decode cX9_isSortedBy 19 = .ok (.aload_n 0, 1) := by decide +kernel
theorem dX9_isSortedBy_20 : decode cX9_isSortedBy 20 = .ok (.getfield 16, 3) := by decide +kernel
theorem dX9_isSortedBy_23 : decode cX9_isSortedBy 23 = .ok (.bipush 40, 2) := by decide +kernel
theorem dX9_isSortedBy_25 : decode cX9_isSortedBy 25 = .ok (.invokevirtual 201, 3) := by decide +kernel
theorem dX9_isSortedBy_28 : decode cX9_isSortedBy 28 = .ok (.bipush (-4), 2) := by decide +kernel
theorem dX9_isSortedBy_30 : decode cX9_isSortedBy 30 = .ok (.if_icmp .eq 7, 3) := by decide +kernel
theorem dX9_isSortedBy_33 : decode cX9_isSortedBy 33 = .ok (.iconst 1, 1) := by decide +kernel
theorem dX9_isSortedBy_34 : decode cX9_isSortedBy 34 = .ok (.goto 4, 3) := by decide +kernel
theorem dX9_isSortedBy_37 : decode cX9_isSortedBy 37 = .ok (.iconst 0, 1) := by decide +kernel
theorem dX9_isSortedBy_38 : decode cX9_isSortedBy 38 = .ok (.ireturn, 1) := by decide +kernel
theorem dX9_stepsWithHole_0 : decode cX9_stepsWithHole 0 = .ok (.aload_n 0, 1) := by decide +kernel
theorem dX9_stepsWithHole_1 : decode cX9_stepsWithHole 1 = .ok (.getfield 16, 3) := by decide +kernel
theorem dX9_stepsWithHole_4 : decode cX9_stepsWithHole 4 = .ok (.aload_n 0, 1) := by decide +kernel
theorem dX9_stepsWithHole_5 : decode cX9_stepsWithHole 5 = .ok (.getfield 10, 3) := by decide +kernel
theorem dX9_stepsWithHole_8 : decode cX9_stepsWithHole 8 = .ok (.invokevirtual 86, 3) := by decide +kernel
theorem dX9_stepsWithHole_11 : decode cX9_stepsWithHole 11 = .ok (.aload_n 0, 1) := by decide +kernel
theorem dX9_stepsWithHole_12 : decode cX9_stepsWithHole 12 = .ok (.getfield 16, 3) := by decide +kernel
theorem dX9_stepsWithHole_15 : decode cX9_stepsWithHole 15 = .ok (.getfield 119, 3) := by decide +kernel
theorem dX9_stepsWithHole_18 : decode cX9_stepsWithHole 18 = .ok (.iload_n 1, 1) := by decide +kernel
theorem dX9_stepsWithHole_19 : decode cX9_stepsWithHole 19 = .ok (.iload_n 2, 1) := by decide +kernel
theorem dX9_stepsWithHole_20 : decode cX9_stepsWithHole 20 = .ok (.iastore, 1) := by decide +kernel
theorem dX9_stepsWithHole_21 : decode cX9_stepsWithHole 21 = .ok (.aload_n 0, 1) := by decide +kernel
theorem dX9_stepsWithHole_22 : decode cX9_stepsWithHole 22 = .ok (.getfield 16, 3) := by decide +kernel
theorem dX9_stepsWithHole_25 : decode cX9_stepsWithHole 25 = .ok (.iload_n 3, 1) := by decide +kernel
theorem dX9_stepsWithHole_26 : decode cX9_stepsWithHole 26 = .ok (.invokevirtual 201, 3) := by decide +kernel
theorem dX9_stepsWithHole_29 : decode cX9_stepsWithHole 29 = .ok (.ireturn, 1) := by decide +kernel
theorem dX9_isSeenWithFalse_0 : decode cX9_isSeenWithFalse 0 = .ok (.aload_n 0, 1) := by decide +kernel
theorem dX9_isSeenWithFalse_1 : decode cX9_isSeenWithFalse 1 = .ok (.getfield 16, 3) := by decide +kernel
theorem dX9_isSeenWithFalse_4 : decode cX9_isSeenWithFalse 4 = .ok (.aload_n 0, 1) := by decide +kernel
theorem dX9_isSeenWithFalse_5 : decode cX9_isSeenWithFalse 5 = .ok (.getfield 10, 3) := by decide +kernel
theorem dX9_isSeenWithFalse_8 : decode cX9_isSeenWithFalse 8 = .ok (.invokevirtual 86, 3) := by decide +kernel
theorem dX9_isSeenWithFalse_11 : decode cX9_isSeenWithFalse 11 = .ok (.iconst 0, 1) := by decide +kernel
theorem dX9_isSeenWithFalse_12 : decode cX9_isSeenWithFalse 12 = .ok (.istore_n 2, 1) := by decide +kernel
theorem dX9_isSeenWithFalse_13 : decode cX9_isSeenWithFalse 13 = .ok (.iload_n 2, 1) := by decide +kernel
theorem dX9_isSeenWithFalse_14 : decode cX9_isSeenWithFalse 14 = .ok (.aload_n 0, 1) := by decide +kernel
theorem dX9_isSeenWithFalse_15 : decode cX9_isSeenWithFalse 15 = .ok (.getfield 16, 3) := by decide +kernel
theorem dX9_isSeenWithFalse_18 : decode cX9_isSeenWithFalse 18 = .ok (.getfield 100, 3) := by decide +kernel
theorem dX9_isSeenWithFalse_21 : decode cX9_isSeenWithFalse 21 = .ok (.if_icmp .ge 35, 3) := by decide +kernel
theorem dX9_isSeenWithFalse_24 : decode cX9_isSeenWithFalse 24 = .ok (.aload_n 0, 1) := by decide +kernel
theorem dX9_isSeenWithFalse_25 : decode cX9_isSeenWithFalse 25 = .ok (.getfield 16, 3) := by decide +kernel
theorem dX9_isSeenWithFalse_28 : decode cX9_isSeenWithFalse 28 = .ok (.getfield 126, 3) := by decide +kernel
theorem dX9_isSeenWithFalse_31 : decode cX9_isSeenWithFalse 31 = .ok (.iload_n 2, 1) := by decide +kernel
theorem dX9_isSeenWithFalse_32 : decode cX9_isSeenWithFalse 32 = .ok (.aaload, 1) := by decide +kernel
theorem dX9_isSeenWithFalse_33 : decode cX9_isSeenWithFalse 33 = .ok (.iload_n 1, 1) := by decide +kernel
theorem dX9_isSeenWithFalse_34 : decode cX9_isSeenWithFalse 34 = .ok (.iload_n 2, 1) := by decide +kernel
theorem dX9_isSeenWithFalse_35 : decode cX9_isSeenWithFalse 35 = .ok (.ishr, 1) := by decide +kernel
theorem dX9_isSeenWithFalse_36 : decode cX9_isSeenWithFalse 36 = .ok (.iconst 1, 1) := by decide +kernel
theorem dX9_isSeenWithFalse_37 : decode cX9_isSeenWithFalse 37 = .ok (.iand, 1) := by decide +kernel
theorem dX9_isSeenWithFalse_38 : decode cX9_isSeenWithFalse 38 = .ok (.iconst 1, 1) := by decide +kernel
theorem dX9_isSeenWithFalse_39 : decode cX9_isSeenWithFalse 39 = .ok (.if_icmp .ne 7, 3) := by decide +kernel
theorem dX9_isSeenWithFalse_42 : decode cX9_isSeenWithFalse 42 = .ok (.iconst 1, 1) := by decide +kernel
theorem dX9_isSeenWithFalse_43 : decode cX9_isSeenWithFalse 43 = .ok (.goto 4, 3) := by decide +kernel
theorem dX9_isSeenWithFalse_46 : decode cX9_isSeenWithFalse 46 = .ok (.iconst 0, 1) := by decide +kernel
theorem dX9_isSeenWithFalse_47 : decode cX9_isSeenWithFalse 47 = .ok (.putfield 135, 3) := by decide +kernel
theorem dX9_isSeenWithFalse_50 : decode cX9_isSeenWithFalse 50 = .ok (.iinc 2 1, 3) := by decide +kernel
theorem dX9_isSeenWithFalse_53 : decode cX9_isSeenWithFalse 53 = .ok (.goto (-40), 3) := by decide +kernel
theorem dX9_isSeenWithFalse_56 : decode cX9_isSeenWithFalse 56 = .ok (.aload_n 0, 1) := by decide +kernel
theorem dX9_isSeenWithFalse_57 : decode cX9_isSeenWithFalse 57 = .ok (.getfield 22, 3) := by decide +kernel
theorem dX9_isSeenWithFalse_60 : decode cX9_isSeenWithFalse 60 = .ok (.aload_n 0, 1) := by decide +kernel
theorem dX9_isSeenWithFalse_61 : decode cX9_isSeenWithFalse 61 = .ok (.getfield 16, 3) := by decide +kernel
theorem dX9_isSeenWithFalse_64 : decode cX9_isSeenWithFalse 64 = .ok (.invokevirtual 238, 3) := by decide +kernel
theorem dX9_isSeenWithFalse_67 : decode cX9_isSeenWithFalse 67 = .ok (.ireturn, 1) := by decide +kernel
theorem dX10_init_0 : decode cX10_init 0 = .ok (.aload_n 0, 1) := by decide +kernel
theorem dX10_init_1 : decode cX10_init 1 = .ok (.invokespecial 1, 3) := by decide +kernel
theorem dX10_init_4 : decode cX10_init 4 = .ok (.aload_n 0, 1) := by decide +kernel
theorem dX10_init_5 : decode cX10_init 5 = .ok (.sipush 237, 3) := by decide +kernel
theorem dX10_init_8 : decode cX10_init 8 = .ok (.newarray .int, 2) := by decide +kernel
theorem dX10_init_10 : decode cX10_init 10 = .ok (.putfield 7, 3) := by decide +kernel
theorem dX10_init_13 : decode cX10_init 13 = .ok (.aload_n 0, 1) := by decide +kernel
theorem dX10_init_14 : decode cX10_init 14 = .ok (.iconst 2, 1) := by decide +kernel
theorem dX10_init_15 : decode cX10_init 15 = .ok (.newarray .boolean, 2) := by decide +kernel
theorem dX10_init_17 : decode cX10_init 17 = .ok (.putfield 13, 3) := by decide +kernel
theorem dX10_init_20 : decode cX10_init 20 = .ok (.aload_n 0, 1) := by decide +kernel
theorem dX10_init_21 : decode cX10_init 21 = .ok (.bipush 79, 2) := by decide +kernel
theorem dX10_init_23 : decode cX10_init 23 = .ok (.newarray .int, 2) := by decide +kernel
theorem dX10_init_25 : decode cX10_init 25 = .ok (.putfield 17, 3) := by decide +kernel
theorem dX10_init_28 : decode cX10_init 28 = .ok (.aload_n 0, 1) := by decide +kernel
theorem dX10_init_29 : decode cX10_init 29 = .ok (.sipush 320, 3) := by decide +kernel
theorem dX10_init_32 : decode cX10_init 32 = .ok (.newarray .int, 2) := by decide +kernel
theorem dX10_init_34 : decode cX10_init 34 = .ok (.putfield 20, 3) := by decide +kernel
theorem dX10_init_37 : decode cX10_init 37 = .ok (.aload_n 0, 1) := by decide +kernel
theorem dX10_init_38 : decode cX10_init 38 = .ok (.bipush 8, 2) := by decide +kernel
theorem dX10_init_40 : decode cX10_init 40 = .ok (.newarray .int, 2) := by decide +kernel
theorem dX10_init_42 : decode cX10_init 42 = .ok (.putfield 23, 3) := by decide +kernel
theorem dX10_init_45 : decode cX10_init 45 = .ok (.aload_n 0, 1) := by decide +kernel
theorem dX10_init_46 : decode cX10_init 46 = .ok (.bipush 6, 2) := by decide +kernel
theorem dX10_init_48 : decode cX10_init 48 = .ok (.newarray .int, 2) := by decide +kernel
theorem dX10_init_50 : decode cX10_init 50 = .ok (.putfield 26, 3) := by decide +kernel
theorem dX10_init_53 : decode cX10_init 53 = .ok (.aload_n 0, 1) := by decide +kernel
theorem dX10_init_54 : decode cX10_init 54 = .ok (.bipush 6, 2) := by decide +kernel
theorem dX10_init_56 : decode cX10_init 56 = .ok (.newarray .int, 2) := by decide +kernel
theorem dX10_init_58 : decode cX10_init 58 = .ok (.putfield 29, 3) := by decide +kernel
theorem dX10_init_61 : decode cX10_init 61 = .ok (.aload_n 0, 1) := by decide +kernel
theorem dX10_init_62 : decode cX10_init 62 = .ok (.iconst 4, 1) := by decide +kernel
theorem dX10_init_63 : decode cX10_init 63 = .ok (.newarray .int, 2) := by decide +kernel
theorem dX10_init_65 : decode cX10_init 65 = .ok (.putfield 32, 3) := by decide +kernel
theorem dX10_init_68 : decode cX10_init 68 = .ok (.aload_n 0, 1) := by decide +kernel
theorem dX10_init_69 : decode cX10_init 69 = .ok (.iconst 4, 1) := by decide +kernel
theorem dX10_init_70 : decode cX10_init 70 = .ok (.newarray .int, 2) := by decide +kernel
theorem dX10_init_72 : decode cX10_init 72 = .ok (.putfield 35, 3) := by decide +kernel
theorem dX10_init_75 : decode cX10_init 75 = .ok (.aload_n 0, 1) := by decide +kernel
theorem dX10_init_76 : decode cX10_init 76 = .ok (.iconst 4, 1) := by decide +kernel
theorem dX10_init_77 : decode cX10_init 77 = .ok (.newarray .int, 2) := by decide +kernel
theorem dX10_init_79 : decode cX10_init 79 = .ok (.putfield 38, 3) := by decide +kernel
theorem dX10_init_82 : decode cX10_init 82 = .ok (.aload_n 0, 1) := by decide +kernel
theorem dX10_init_83 : decode cX10_init 83 = .ok (.iconst 4, 1) := by decide +kernel
theorem dX10_init_84 : decode cX10_init 84 = .ok (.newarray .int, 2) := by decide +kernel
theorem dX10_init_86 : decode cX10_init 86 = .ok (.putfield 41, 3) := by decide +kernel
theorem dX10_init_89 : decode cX10_init 89 = .ok (.aload_n 0, 1) := by decide +kernel
theorem dX10_init_90 : decode cX10_init 90 = .ok (.iconst 4, 1) := by decide +kernel
theorem dX10_init_91 : decode cX10_init 91 = .ok (.newarray .int, 2) := by decide +kernel
theorem dX10_init_93 : decode cX10_init 93 = .ok (.putfield 44, 3) := by decide +kernel
theorem dX10_init_96 : decode cX10_init 96 = .ok (.aload_n 0, 1) := by decide +kernel
theorem dX10_init_97 : decode cX10_init 97 = .ok (.iconst 4, 1) := by decide +kernel
theorem dX10_init_98 : decode cX10_init 98 = .ok (.newarray .boolean, 2) := by decide +kernel
theorem dX10_init_100 : decode cX10_init 100 = .ok (.putfield 47, 3) := by decide +kernel
theorem dX10_init_103 : decode cX10_init 103 = .ok (.aload_n 0, 1) := by decide +kernel
theorem dX10_init_104 : decode cX10_init 104 = .ok (.iconst 4, 1) := by decide +kernel
theorem dX10_init_105 : decode cX10_init 105 = .ok (.newarray .int, 2) := by decide +kernel
theorem dX10_init_107 : decode cX10_init 107 = .ok (.putfield 50, 3) := by decide +kernel
theorem dX10_init_110 : decode cX10_init 110 = .ok (.aload_n 0, 1) := by decide +kernel
theorem dX10_init_111 : decode cX10_init 111 = .ok (.iconst 4, 1) := by decide +kernel
theorem dX10_init_112 : decode cX10_init 112 = .ok (.newarray .int, 2) := by decide +kernel
theorem dX10_init_114 : decode cX10_init 114 = .ok (.putfield 53, 3) := by decide +kernel
theorem dX10_init_117 : decode cX10_init 117 = .ok (.aload_n 0, 1) := by decide +kernel
theorem dX10_init_118 : decode cX10_init 118 = .ok (.iconst 4, 1) := by decide +kernel
theorem dX10_init_119 : decode cX10_init 119 = .ok (.newarray .int, 2) := by decide +kernel
theorem dX10_init_121 : decode cX10_init 121 = .ok (.putfield 56, 3) := by decide +kernel
theorem dX10_init_124 : decode cX10_init 124 = .ok (.aload_n 0, 1) := by decide +kernel
theorem dX10_init_125 : decode cX10_init 125 = .ok (.iconst 4, 1) := by decide +kernel
theorem dX10_init_126 : decode cX10_init 126 = .ok (.newarray .int, 2) := by decide +kernel
theorem dX10_init_128 : decode cX10_init 128 = .ok (.putfield 59, 3) := by decide +kernel
theorem dX10_init_131 : decode cX10_init 131 = .ok (.aload_n 0, 1) := by decide +kernel
theorem dX10_init_132 : decode cX10_init 132 = .ok (.sipush 160, 3) := by decide +kernel
theorem dX10_init_135 : decode cX10_init 135 = .ok (.newarray .int, 2) := by decide +kernel
theorem dX10_init_137 : decode cX10_init 137 = .ok (.putfield 62, 3) := by decide +kernel
theorem dX10_init_140 : decode cX10_init 140 = .ok (.iconst 0, 1) := by decide +kernel
theorem dX10_init_141 : decode cX10_init 141 = .ok (.istore_n 1, 1) := by decide +kernel
theorem dX10_init_142 : decode cX10_init 142 = .ok (.iload_n 1, 1) := by decide +kernel
theorem dX10_init_143 : decode cX10_init 143 = .ok (.iconst 4, 1) := by decide +kernel
theorem dX10_init_144 : decode cX10_init 144 = .ok (.if_icmp .ge 17, 3) := by decide +kernel
theorem dX10_init_147 : decode cX10_init 147 = .ok (.aload_n 0, 1) := by decide +kernel
theorem dX10_init_148 : decode cX10_init 148 = .ok (.getfield 56, 3) := by decide +kernel
theorem dX10_init_151 : decode cX10_init 151 = .ok (.iload_n 1, 1) := by decide +kernel
theorem dX10_init_152 : decode cX10_init 152 = .ok (.bipush (-4), 2) := by decide +kernel
theorem dX10_init_154 : decode cX10_init 154 = .ok (.iastore, 1) := by decide +kernel
theorem dX10_init_155 : decode cX10_init 155 = .ok (.iinc 1 1, 3) := by decide +kernel
theorem dX10_init_158 : decode cX10_init 158 = .ok (.goto (-16), 3) := by decide +kernel
theorem dX10_init_161 : decode cX10_init 161 = .ok (.aload_n 0, 1) := by decide +kernel
theorem dX10_init_162 : decode cX10_init 162 = .ok (.invokevirtual 65, 3) := by decide +kernel
theorem dX10_init_165 : decode cX10_init 165 = .ok (.aload_n 0, 1) := by decide +kernel
theorem dX10_init_166 : decode cX10_init 166 = .ok (.invokevirtual 68, 3) := by decide +kernel
theorem dX10_init_169 : decode cX10_init 169 = .ok (.return_, 1) := by decide +kernel
theorem dX10_in_0 : decode cX10_in 0 = .ok (.lload_n 0, 1) := by decide +kernel
theorem dX10_in_1 : decode cX10_in 1 = .ok (.lload_n 2, 1) := by decide +kernel
theorem dX10_in_2 : decode cX10_in 2 = .ok (.lcmp, 1) := by decide +kernel
theorem dX10_in_3 : decode cX10_in 3 = .ok (.ifCond .lt 14, 3) := by decide +kernel
theorem dX10_in_6 : decode cX10_in 6 = .ok (.lload_n 0, 1) := by decide +kernel
theorem dX10_in_7 : decode cX10_in 7 = .ok (.lload 4, 2) := by decide +kernel
theorem dX10_in_9 : decode cX10_in 9 = .ok (.lcmp, 1) := by decide +kernel
theorem dX10_in_10 : decode cX10_in 10 = .ok (.ifCond .gt 7, 3) := by decide +kernel
theorem dX10_in_13 : decode cX10_in 13 = .ok (.iconst 1, 1) := by decide +kernel
theorem dX10_in_14 : decode cX10_in 14 = .ok (.goto 4, 3) := by decide +kernel
theorem dX10_in_17 : decode cX10_in 17 = .ok (.iconst 0, 1) := by decide +kernel
theorem dX10_in_18 : decode cX10_in 18 = .ok (.ireturn, 1) := by decide +kernel
theorem dX10_flag_0 : decode cX10_flag 0 = .ok (.iload_n 0, 1) := by decide +kernel
theorem dX10_flag_1 : decode cX10_flag 1 = .ok (.ifCond .eq 7, 3) := by decide +kernel
theorem dX10_flag_4 : decode cX10_flag 4 = .ok (.iconst 1, 1) := by decide +kernel
theorem dX10_flag_5 : decode cX10_flag 5 = .ok (.goto 4, 3) := by decide +kernel
theorem dX10_flag_8 : decode cX10_flag 8 = .ok (.iconst 0, 1) := by decide +kernel
theorem dX10_flag_9 : decode cX10_flag 9 = .ok (.ireturn, 1) := by decide +kernel
theorem dX10_firstDraft_0 : decode cX10_firstDraft 0 = .ok (.iconst 0, 1) := by decide +kernel
theorem dX10_firstDraft_1 : decode cX10_firstDraft 1 = .ok (.istore_n 1, 1) := by decide +kernel
theorem dX10_firstDraft_2 : decode cX10_firstDraft 2 = .ok (.iload_n 1, 1) := by decide +kernel
theorem dX10_firstDraft_3 : decode cX10_firstDraft 3 = .ok (.bipush 79, 2) := by decide +kernel
theorem dX10_firstDraft_5 : decode cX10_firstDraft 5 = .ok (.if_icmp .ge 16, 3) := by decide +kernel
theorem dX10_firstDraft_8 : decode cX10_firstDraft 8 = .ok (.aload_n 0, 1) := by decide +kernel
theorem dX10_firstDraft_9 : decode cX10_firstDraft 9 = .ok (.getfield 17, 3) := by decide +kernel
theorem dX10_firstDraft_12 : decode cX10_firstDraft 12 = .ok (.iload_n 1, 1) := by decide +kernel
theorem dX10_firstDraft_13 : decode cX10_firstDraft 13 = .ok (.iconst 0, 1) := by decide +kernel
theorem dX10_firstDraft_14 : decode cX10_firstDraft 14 = .ok (.iastore, 1) := by decide +kernel
theorem dX10_firstDraft_15 : decode cX10_firstDraft 15 = .ok (.iinc 1 1, 3) := by decide +kernel
theorem dX10_firstDraft_18 : decode cX10_firstDraft 18 = .ok (.goto (-16), 3) := by decide +kernel
theorem dX10_firstDraft_21 : decode cX10_firstDraft 21 = .ok (.aload_n 0, 1) := by decide +kernel
theorem dX10_firstDraft_22 : decode cX10_firstDraft 22 = .ok (.iconst 4, 1) := by decide +kernel
theorem dX10_firstDraft_23 : decode cX10_firstDraft 23 = .ok (.putfield 71, 3) := by decide +kernel
theorem dX10_firstDraft_26 : decode cX10_firstDraft 26 = .ok (.aload_n 0, 1) := by decide +kernel
theorem dX10_firstDraft_27 : decode cX10_firstDraft 27 = .ok (.iconst 0, 1) := by decide +kernel
theorem dX10_firstDraft_28 : decode cX10_firstDraft 28 = .ok (.putfield 75, 3) := by decide +kernel
theorem dX10_firstDraft_31 : decode cX10_firstDraft 31 = .ok (.aload_n 0, 1) := by decide +kernel
theorem dX10_firstDraft_32 : decode cX10_firstDraft 32 = .ok (.iconst 0, 1) := by decide +kernel
theorem dX10_firstDraft_33 : decode cX10_firstDraft 33 = .ok (.putfield 78, 3) := by decide +kernel
theorem dX10_firstDraft_36 : decode cX10_firstDraft 36 = .ok (.aload_n 0, 1) := by decide +kernel
theorem dX10_firstDraft_37 : decode cX10_firstDraft 37 = .ok (.bipush (-4), 2) := by decide +kernel
theorem dX10_firstDraft_39 : decode cX10_firstDraft 39 = .ok (.putfield 81, 3) := by decide +kernel
theorem dX10_firstDraft_42 : decode cX10_firstDraft 42 = .ok (.return_, 1) := by decide +kernel
theorem dX10_keepDraft_0 : decode cX10_keepDraft 0 = .ok (.iconst 0, 1) := by decide +kernel
theorem dX10_keepDraft_1 : decode cX10_keepDraft 1 = .ok (.istore_n 1, 1) := by decide +kernel
theorem dX10_keepDraft_2 : decode cX10_keepDraft 2 = .ok (.iload_n 1, 1) := by decide +kernel
theorem dX10_keepDraft_3 : decode cX10_keepDraft 3 = .ok (.bipush 79, 2) := by decide +kernel
theorem dX10_keepDraft_5 : decode cX10_keepDraft 5 = .ok (.if_icmp .ge 21, 3) := by decide +kernel
theorem dX10_keepDraft_8 : decode cX10_keepDraft 8 = .ok (.aload_n 0, 1) := by decide +kernel
theorem dX10_keepDraft_9 : decode cX10_keepDraft 9 = .ok (.getfield 7, 3) := by decide +kernel
theorem dX10_keepDraft_12 : decode cX10_keepDraft 12 = .ok (.iload_n 1, 1) := by decide +kernel
theorem dX10_keepDraft_13 : decode cX10_keepDraft 13 = .ok (.aload_n 0, 1) := by decide +kernel
theorem dX10_keepDraft_14 : decode cX10_keepDraft 14 = .ok (.getfield 17, 3) := by decide +kernel
theorem dX10_keepDraft_17 : decode cX10_keepDraft 17 = .ok (.iload_n 1, 1) := by decide +kernel
theorem dX10_keepDraft_18 : decode cX10_keepDraft 18 = .ok (.iaload, 1) := by decide +kernel
theorem dX10_keepDraft_19 : decode cX10_keepDraft 19 = .ok (.iastore, 1) := by decide +kernel
theorem dX10_keepDraft_20 : decode cX10_keepDraft 20 = .ok (.iinc 1 1, 3) := by decide +kernel
theorem dX10_keepDraft_23 : decode cX10_keepDraft 23 = .ok (.goto (-21), 3) := by decide +kernel
theorem dX10_keepDraft_26 : decode cX10_keepDraft 26 = .ok (.aload_n 0, 1) := by decide +kernel
theorem dX10_keepDraft_27 : decode cX10_keepDraft 27 = .ok (.aload_n 0, 1) := by decide +kernel
theorem dX10_keepDraft_28 : decode cX10_keepDraft 28 = .ok (.getfield 71, 3) := by decide +kernel
theorem dX10_keepDraft_31 : decode cX10_keepDraft 31 = .ok (.putfield 84, 3) := by decide +kernel
theorem dX10_keepDraft_34 : decode cX10_keepDraft 34 = .ok (.aload_n 0, 1) := by decide +kernel
theorem dX10_keepDraft_35 : decode cX10_keepDraft 35 = .ok (.aload_n 0, 1) := by decide +kernel
theorem dX10_keepDraft_36 : decode cX10_keepDraft 36 = .ok (.getfield 75, 3) := by decide +kernel
theorem dX10_keepDraft_39 : decode cX10_keepDraft 39 = .ok (.putfield 87, 3) := by decide +kernel
theorem dX10_keepDraft_42 : decode cX10_keepDraft 42 = .ok (.aload_n 0, 1) := by decide +kernel
theorem dX10_keepDraft_43 : decode cX10_keepDraft 43 = .ok (.getfield 13, 3) := by decide +kernel
theorem dX10_keepDraft_46 : decode cX10_keepDraft 46 = .ok (.iconst 0, 1) := by decide +kernel
theorem dX10_keepDraft_47 : decode cX10_keepDraft 47 = .ok (.iconst 0, 1) := by decide +kernel
theorem dX10_keepDraft_48 : decode cX10_keepDraft 48 = .ok (.bastore, 1) := by decide +kernel
theorem dX10_keepDraft_49 : decode cX10_keepDraft 49 = .ok (.aload_n 0, 1) := by decide +kernel
theorem dX10_keepDraft_50 : decode cX10_keepDraft 50 = .ok (.getfield 13, 3) := by decide +kernel
theorem dX10_keepDraft_53 : decode cX10_keepDraft 53 = .ok (.iconst 1, 1) := by decide +kernel
theorem dX10_keepDraft_54 : decode cX10_keepDraft 54 = .ok (.iconst 0, 1) := by decide +kernel
theorem dX10_keepDraft_55 : decode cX10_keepDraft 55 = .ok (.bastore, 1) := by decide +kernel
theorem dX10_keepDraft_56 : decode cX10_keepDraft 56 = .ok (.return_, 1) := by decide +kernel
theorem dX10_feed_0 : decode cX10_feed 0 = .ok (.aload_n 0, 1) := by decide +kernel
theorem dX10_feed_1 : decode cX10_feed 1 = .ok (.getfield 90, 3) := by decide +kernel
theorem dX10_feed_4 : decode cX10_feed 4 = .ok (.bipush 8, 2) := by decide +kernel
theorem dX10_feed_6 : decode cX10_feed 6 = .ok (.iadd, 1) := by decide +kernel
theorem dX10_feed_7 : decode cX10_feed 7 = .ok (.sipush 320, 3) := by decide +kernel
theorem dX10_feed_10 : decode cX10_feed 10 = .ok (.if_icmp .le 6, 3) := by decide +kernel
theorem dX10_feed_13 : decode cX10_feed 13 = .ok (.bipush (-3), 2) := by decide +kernel
theorem dX10_feed_15 : decode cX10_feed 15 = .ok (.ireturn, 1) := by decide +kernel
theorem dX10_feed_16 : decode cX10_feed 16 = .ok (.bipush 56, 2) := by decide +kernel
theorem dX10_feed_18 : decode cX10_feed 18 = .ok (.istore_n 3, 1) := by decide +kernel
theorem dX10_feed_19 : decode cX10_feed 19 = .ok (.iload_n 3, 1) := by decide +kernel
theorem dX10_feed_20 : decode cX10_feed 20 = .ok (.ifCond .lt 36, 3) := by decide +kernel
theorem dX10_feed_23 : decode cX10_feed 23 = .ok (.aload_n 0, 1) := by decide +kernel
theorem dX10_feed_24 : decode cX10_feed 24 = .ok (.getfield 20, 3) := by decide +kernel
theorem dX10_feed_27 : decode cX10_feed 27 = .ok (.aload_n 0, 1) := by decide +kernel
theorem dX10_feed_28 : decode cX10_feed 28 = .ok (.getfield 90, 3) := by decide +kernel
theorem dX10_feed_31 : decode cX10_feed 31 = .ok (.lload_n 1, 1) := by decide +kernel
theorem dX10_feed_32 : decode cX10_feed 32 = .ok (.iload_n 3, 1) := by decide +kernel
theorem dX10_feed_33 : decode cX10_feed 33 = .ok (.lshr, 1) := by decide +kernel
theorem dX10_feed_34 : decode cX10_feed 34 = .ok (.ldc2_w 93, 3) := by decide +kernel
theorem dX10_feed_37 : decode cX10_feed 37 = .ok (.land, 1) := by decide +kernel
theorem dX10_feed_38 : decode cX10_feed 38 = .ok (.l2i, 1) := by decide +kernel
theorem dX10_feed_39 : decode cX10_feed 39 = .ok (.iastore, 1) := by decide +kernel
theorem dX10_feed_40 : decode cX10_feed 40 = .ok (.aload_n 0, 1) := by decide +kernel
theorem dX10_feed_41 : decode cX10_feed 41 = .ok (.dup, 1) := by decide +kernel
theorem dX10_feed_42 : decode cX10_feed 42 = .ok (.getfield 90, 3) := by decide +kernel
theorem dX10_feed_45 : decode cX10_feed 45 = .ok (.iconst 1, 1) := by decide +kernel
theorem dX10_feed_46 : decode cX10_feed 46 = .ok (.iadd, 1) := by decide +kernel
theorem dX10_feed_47 : decode cX10_feed 47 = .ok (.putfield 90, 3) := by decide +kernel
theorem dX10_feed_50 : decode cX10_feed 50 = .ok (.iinc 3 (-8), 3) := by decide +kernel
theorem dX10_feed_53 : decode cX10_feed 53 = .ok (.goto (-34), 3) := by decide +kernel
theorem dX10_feed_56 : decode cX10_feed 56 = .ok (.aload_n 0, 1) := by decide +kernel
theorem dX10_feed_57 : decode cX10_feed 57 = .ok (.getfield 90, 3) := by decide +kernel
theorem dX10_feed_60 : decode cX10_feed 60 = .ok (.ireturn, 1) := by decide +kernel
theorem dX10_end_0 : decode cX10_end 0 = .ok (.iload_n 1, 1) := by decide +kernel
theorem dX10_end_1 : decode cX10_end 1 = .ok (.i2l, 1) := by decide +kernel
theorem dX10_end_2 : decode cX10_end 2 = .ok (.lconst 0, 1) := by decide +kernel
theorem dX10_end_3 : decode cX10_end 3 = .ok (.aload_n 0, 1) := by decide +kernel
theorem dX10_end_4 : decode cX10_end 4 = .ok (.getfield 90, 3) := by decide +kernel
theorem dX10_end_7 : decode cX10_end 7 = .ok (.i2l, 1) := by decide +kernel
theorem dX10_end_8 : decode cX10_end 8 = .ok (.invokestatic 95, 3) := by decide +kernel
theorem dX10_end_11 : decode cX10_end 11 = .ok (.ifCond .ne 5, 3) := by decide +kernel
theorem dX10_end_14 : decode cX10_end 14 = .ok (.iconst (-1), 1) := by decide +kernel
theorem dX10_end_15 : decode cX10_end 15 = .ok (.ireturn, 1) := by decide +kernel
theorem dX10_end_16 : decode cX10_end 16 = .ok (.aload_n 0, 1) := by decide +kernel
theorem dX10_end_17 : decode cX10_end 17 = .ok (.getfield 90, 3) := by decide +kernel
theorem dX10_end_20 : decode cX10_end 20 = .ok (.istore_n 2, 1) := by decide +kernel
theorem dX10_end_21 : decode cX10_end 21 = .ok (.aload_n 0, 1) := by decide +kernel
theorem dX10_end_22 : decode cX10_end 22 = .ok (.iload_n 1, 1) := by decide +kernel
theorem dX10_end_23 : decode cX10_end 23 = .ok (.putfield 90, 3) := by decide +kernel
theorem dX10_end_26 : decode cX10_end 26 = .ok (.iload_n 2, 1) := by decide +kernel
theorem dX10_end_27 : decode cX10_end 27 = .ok (.ireturn, 1) := by decide +kernel
theorem dX10_needs_0 : decode cX10_needs 0 = .ok (.iload_n 1, 1) := by decide +kernel
theorem dX10_needs_1 : decode cX10_needs 1 = .ok (.ifCond .ne 23, 3) := by decide +kernel
theorem dX10_needs_4 : decode cX10_needs 4 = .ok (.aload_n 0, 1) := by decide +kernel
theorem dX10_needs_5 : decode cX10_needs 5 = .ok (.getfield 99, 3) := by decide +kernel
theorem dX10_needs_8 : decode cX10_needs 8 = .ok (.ifCond .ne 16, 3) := by decide +kernel
theorem dX10_needs_11 : decode cX10_needs 11 = .ok (.aload_n 0, 1) := by decide +kernel
theorem dX10_needs_12 : decode cX10_needs 12 = .ok (.iload_n 2, 1) := by decide +kernel
theorem dX10_needs_13 : decode cX10_needs 13 = .ok (.putfield 99, 3) := by decide +kernel
theorem dX10_needs_16 : decode cX10_needs 16 = .ok (.aload_n 0, 1) := by decide +kernel
theorem dX10_needs_17 : decode cX10_needs 17 = .ok (.aload_n 0, 1) := by decide +kernel
theorem dX10_needs_18 : decode cX10_needs 18 = .ok (.getfield 102, 3) := by decide +kernel
theorem dX10_needs_21 : decode cX10_needs 21 = .ok (.putfield 105, 3) := by decide +kernel
theorem dX10_needs_24 : decode cX10_needs 24 = .ok (.return_, 1) := by decide +kernel
theorem dX10_look_0 : decode cX10_look 0 = .ok (.iload_n 1, 1) := by decide +kernel
theorem dX10_look_1 : decode cX10_look 1 = .ok (.aload_n 0, 1) := by decide +kernel
theorem dX10_look_2 : decode cX10_look 2 = .ok (.getfield 90, 3) := by decide +kernel
theorem dX10_look_5 : decode cX10_look 5 = .ok (.if_icmp .ge 12, 3) := by decide +kernel
theorem dX10_look_8 : decode cX10_look 8 = .ok (.aload_n 0, 1) := by decide +kernel
theorem dX10_look_9 : decode cX10_look 9 = .ok (.getfield 20, 3) := by decide +kernel
theorem dX10_look_12 : decode cX10_look 12 = .ok (.iload_n 1, 1) := by decide +kernel
theorem dX10_look_13 : decode cX10_look 13 = .ok (.iaload, 1) := by decide +kernel
theorem dX10_look_14 : decode cX10_look 14 = .ok (.goto 4, 3) := by decide +kernel
theorem dX10_look_17 : decode cX10_look 17 = .ok (.iconst (-1), 1) := by decide +kernel
theorem dX10_look_18 : decode cX10_look 18 = .ok (.ireturn, 1) := by decide +kernel
theorem dX10_is_0 : decode cX10_is 0 = .ok (.aload_n 0, 1) := by decide +kernel
theorem dX10_is_1 : decode cX10_is 1 = .ok (.getfield 108, 3) := by decide +kernel
theorem dX10_is_4 : decode cX10_is 4 = .ok (.aload_n 0, 1) := by decide +kernel
theorem dX10_is_5 : decode cX10_is 5 = .ok (.getfield 102, 3) := by decide +kernel
theorem dX10_is_8 : decode cX10_is 8 = .ok (.isub, 1) := by decide +kernel
theorem dX10_is_9 : decode cX10_is 9 = .ok (.iload_n 1, 1) := by decide +kernel
theorem dX10_is_10 : decode cX10_is 10 = .ok (.if_icmp .ne 48, 3) := by decide +kernel
theorem dX10_is_13 : decode cX10_is 13 = .ok (.aload_n 0, 1) := by decide +kernel
theorem dX10_is_14 : decode cX10_is 14 = .ok (.aload_n 0, 1) := by decide +kernel
theorem dX10_is_15 : decode cX10_is 15 = .ok (.getfield 102, 3) := by decide +kernel
theorem dX10_is_18 : decode cX10_is 18 = .ok (.invokevirtual 111, 3) := by decide +kernel
theorem dX10_is_21 : decode cX10_is 21 = .ok (.iload_n 2, 1) := by decide +kernel
theorem dX10_is_22 : decode cX10_is 22 = .ok (.if_icmp .ne 36, 3) := by decide +kernel
theorem dX10_is_25 : decode cX10_is 25 = .ok (.aload_n 0, 1) := by decide +kernel
theorem dX10_is_26 : decode cX10_is 26 = .ok (.aload_n 0, 1) := by decide +kernel
theorem dX10_is_27 : decode cX10_is 27 = .ok (.getfield 102, 3) := by decide +kernel
theorem dX10_is_30 : decode cX10_is 30 = .ok (.iconst 1, 1) := by decide +kernel
theorem dX10_is_31 : decode cX10_is 31 = .ok (.iadd, 1) := by decide +kernel
theorem dX10_is_32 : decode cX10_is 32 = .ok (.invokevirtual 111, 3) := by decide +kernel
theorem dX10_is_35 : decode cX10_is 35 = .ok (.iload_n 3, 1) := by decide +kernel
theorem dX10_is_36 : decode cX10_is 36 = .ok (.if_icmp .ne 22, 3) := by decide +kernel
theorem dX10_is_39 : decode cX10_is 39 = .ok (.aload_n 0, 1) := by decide +kernel
theorem dX10_is_40 : decode cX10_is 40 = .ok (.aload_n 0, 1) := by decide +kernel
theorem dX10_is_41 : decode cX10_is 41 = .ok (.getfield 102, 3) := by decide +kernel
theorem dX10_is_44 : decode cX10_is 44 = .ok (.iconst 2, 1) := by decide +kernel
theorem dX10_is_45 : decode cX10_is 45 = .ok (.iadd, 1) := by decide +kernel
theorem dX10_is_46 : decode cX10_is 46 = .ok (.invokevirtual 111, 3) := by decide +kernel
theorem dX10_is_49 : decode cX10_is 49 = .ok (.iload 4, 2) := by decide +kernel
theorem dX10_is_51 : decode cX10_is 51 = .ok (.if_icmp .ne 7, 3) := by decide +kernel
theorem dX10_is_54 : decode cX10_is 54 = .ok (.iconst 1, 1) := by decide +kernel
theorem dX10_is_55 : decode cX10_is 55 = .ok (.goto 4, 3) := by decide +kernel
theorem dX10_is_58 : decode cX10_is 58 = .ok (.iconst 0, 1) := by decide +kernel
theorem dX10_is_59 : decode cX10_is 59 = .ok (.ireturn, 1) := by decide +kernel
theorem dX10_ends_0 : decode cX10_ends 0 = .ok (.aload_n 0, 1) := by decide +kernel
theorem dX10_ends_1 : decode cX10_ends 1 = .ok (.aload_n 0, 1) := by decide +kernel
theorem dX10_ends_2 : decode cX10_ends 2 = .ok (.getfield 102, 3) := by decide +kernel
theorem dX10_ends_5 : decode cX10_ends 5 = .ok (.iconst 3, 1) := by decide +kernel
theorem dX10_ends_6 : decode cX10_ends 6 = .ok (.iadd, 1) := by decide +kernel
theorem dX10_ends_7 : decode cX10_ends 7 = .ok (.invokevirtual 111, 3) := by decide +kernel
theorem dX10_ends_10 : decode cX10_ends 10 = .ok (.iload_n 1, 1) := by decide +kernel
theorem dX10_ends_11 : decode cX10_ends 11 = .ok (.if_icmp .ne 43, 3) := by decide +kernel
theorem dX10_ends_14 : decode cX10_ends 14 = .ok (.iload_n 2, 1) := by decide +kernel
theorem dX10_ends_15 : decode cX10_ends 15 = .ok (.ifCond .eq 17, 3) := by decide +kernel
theorem dX10_ends_18 : decode cX10_ends 18 = .ok (.aload_n 0, 1) := by decide +kernel
theorem dX10_ends_19 : decode cX10_ends 19 = .ok (.aload_n 0, 1) := by decide +kernel
theorem dX10_ends_20 : decode cX10_ends 20 = .ok (.getfield 102, 3) := by decide +kernel
theorem dX10_ends_23 : decode cX10_ends 23 = .ok (.iconst 4, 1) := by decide +kernel
theorem dX10_ends_24 : decode cX10_ends 24 = .ok (.iadd, 1) := by decide +kernel
theorem dX10_ends_25 : decode cX10_ends 25 = .ok (.invokevirtual 111, 3) := by decide +kernel
theorem dX10_ends_28 : decode cX10_ends 28 = .ok (.iload_n 2, 1) := by decide +kernel
theorem dX10_ends_29 : decode cX10_ends 29 = .ok (.if_icmp .ne 25, 3) := by decide +kernel
theorem dX10_ends_32 : decode cX10_ends 32 = .ok (.iload_n 3, 1) := by decide +kernel
theorem dX10_ends_33 : decode cX10_ends 33 = .ok (.ifCond .eq 17, 3) := by decide +kernel
theorem dX10_ends_36 : decode cX10_ends 36 = .ok (.aload_n 0, 1) := by decide +kernel
theorem dX10_ends_37 : decode cX10_ends 37 = .ok (.aload_n 0, 1) := by decide +kernel
theorem dX10_ends_38 : decode cX10_ends 38 = .ok (.getfield 102, 3) := by decide +kernel
theorem dX10_ends_41 : decode cX10_ends 41 = .ok (.iconst 5, 1) := by decide +kernel
theorem dX10_ends_42 : decode cX10_ends 42 = .ok (.iadd, 1) := by decide +kernel
theorem dX10_ends_43 : decode cX10_ends 43 = .ok (.invokevirtual 111, 3) := by decide +kernel
theorem dX10_ends_46 : decode cX10_ends 46 = .ok (.iload_n 3, 1) := by decide +kernel
theorem dX10_ends_47 : decode cX10_ends 47 = .ok (.if_icmp .ne 7, 3) := by decide +kernel
theorem dX10_ends_50 : decode cX10_ends 50 = .ok (.iconst 1, 1) := by decide +kernel
theorem dX10_ends_51 : decode cX10_ends 51 = .ok (.goto 4, 3) := by decide +kernel
theorem dX10_ends_54 : decode cX10_ends 54 = .ok (.iconst 0, 1) := by decide +kernel
theorem dX10_ends_55 : decode cX10_ends 55 = .ok (.ireturn, 1) := by decide +kernel
theorem dX10_lineNow_0 : decode cX10_lineNow 0 = .ok (.aload_n 0, 1) := by decide +kernel
theorem dX10_lineNow_1 : decode cX10_lineNow 1 = .ok (.bipush 6, 2) := by decide +kernel
theorem dX10_lineNow_3 : decode cX10_lineNow 3 = .ok (.bipush 112, 2) := by decide +kernel
theorem dX10_lineNow_5 : decode cX10_lineNow 5 = .ok (.bipush 108, 2) := by decide +kernel
theorem dX10_lineNow_7 : decode cX10_lineNow 7 = .ok (.bipush 97, 2) := by decide +kernel
theorem dX10_lineNow_9 : decode cX10_lineNow 9 = .ok (.invokevirtual 115, 3) := by decide +kernel
theorem dX10_lineNow_12 : decode cX10_lineNow 12 = .ok (.ifCond .eq 18, 3) := by decide +kernel
theorem dX10_lineNow_15 : decode cX10_lineNow 15 = .ok (.aload_n 0, 1) := by decide +kernel
theorem dX10_lineNow_16 : decode cX10_lineNow 16 = .ok (.bipush 99, 2) := by decide +kernel
theorem dX10_lineNow_18 : decode cX10_lineNow 18 = .ok (.bipush 101, 2) := by decide +kernel
theorem dX10_lineNow_20 : decode cX10_lineNow 20 = .ok (.bipush 115, 2) := by decide +kernel
theorem dX10_lineNow_22 : decode cX10_lineNow 22 = .ok (.invokevirtual 119, 3) := by decide +kernel
theorem dX10_lineNow_25 : decode cX10_lineNow 25 = .ok (.ifCond .eq 5, 3) := by decide +kernel
theorem dX10_lineNow_28 : decode cX10_lineNow 28 = .ok (.iconst 0, 1) := by decide +kernel
theorem dX10_lineNow_29 : decode cX10_lineNow 29 = .ok (.ireturn, 1) := by decide +kernel
theorem dX10_lineNow_30 : decode cX10_lineNow 30 = .ok (.aload_n 0, 1) := by decide +kernel
theorem dX10_lineNow_31 : decode cX10_lineNow 31 = .ok (.iconst 4, 1) := by decide +kernel
theorem dX10_lineNow_32 : decode cX10_lineNow 32 = .ok (.bipush 116, 2) := by decide +kernel
theorem dX10_lineNow_34 : decode cX10_lineNow 34 = .ok (.bipush 105, 2) := by decide +kernel
theorem dX10_lineNow_36 : decode cX10_lineNow 36 = .ok (.bipush 100, 2) := by decide +kernel
theorem dX10_lineNow_38 : decode cX10_lineNow 38 = .ok (.invokevirtual 115, 3) := by decide +kernel
theorem dX10_lineNow_41 : decode cX10_lineNow 41 = .ok (.ifCond .eq 16, 3) := by decide +kernel
theorem dX10_lineNow_44 : decode cX10_lineNow 44 = .ok (.aload_n 0, 1) := by decide +kernel
theorem dX10_lineNow_45 : decode cX10_lineNow 45 = .ok (.bipush 101, 2) := by decide +kernel
theorem dX10_lineNow_47 : decode cX10_lineNow 47 = .ok (.iconst 0, 1) := by decide +kernel
theorem dX10_lineNow_48 : decode cX10_lineNow 48 = .ok (.iconst 0, 1) := by decide +kernel
theorem dX10_lineNow_49 : decode cX10_lineNow 49 = .ok (.invokevirtual 119, 3) := by decide +kernel
theorem dX10_lineNow_52 : decode cX10_lineNow 52 = .ok (.ifCond .eq 5, 3) := by decide +kernel
theorem dX10_lineNow_55 : decode cX10_lineNow 55 = .ok (.iconst 1, 1) := by decide +kernel
theorem dX10_lineNow_56 : decode cX10_lineNow 56 = .ok (.ireturn, 1) := by decide +kernel
theorem dX10_lineNow_57 : decode cX10_lineNow 57 = .ok (.aload_n 0, 1) := by decide +kernel
theorem dX10_lineNow_58 : decode cX10_lineNow 58 = .ok (.iconst 4, 1) := by decide +kernel
theorem dX10_lineNow_59 : decode cX10_lineNow 59 = .ok (.bipush 104, 2) := by decide +kernel
theorem dX10_lineNow_61 : decode cX10_lineNow 61 = .ok (.bipush 111, 2) := by decide +kernel
theorem dX10_lineNow_63 : decode cX10_lineNow 63 = .ok (.bipush 108, 2) := by decide +kernel
theorem dX10_lineNow_65 : decode cX10_lineNow 65 = .ok (.invokevirtual 115, 3) := by decide +kernel
theorem dX10_lineNow_68 : decode cX10_lineNow 68 = .ok (.ifCond .eq 16, 3) := by decide +kernel
theorem dX10_lineNow_71 : decode cX10_lineNow 71 = .ok (.aload_n 0, 1) := by decide +kernel
theorem dX10_lineNow_72 : decode cX10_lineNow 72 = .ok (.bipush 101, 2) := by decide +kernel
theorem dX10_lineNow_74 : decode cX10_lineNow 74 = .ok (.iconst 0, 1) := by decide +kernel
theorem dX10_lineNow_75 : decode cX10_lineNow 75 = .ok (.iconst 0, 1) := by decide +kernel
theorem dX10_lineNow_76 : decode cX10_lineNow 76 = .ok (.invokevirtual 119, 3) := by decide +kernel
theorem dX10_lineNow_79 : decode cX10_lineNow 79 = .ok (.ifCond .eq 5, 3) := by decide +kernel
theorem dX10_lineNow_82 : decode cX10_lineNow 82 = .ok (.iconst 2, 1) := by decide +kernel
theorem dX10_lineNow_83 : decode cX10_lineNow 83 = .ok (.ireturn, 1) := by decide +kernel
theorem dX10_lineNow_84 : decode cX10_lineNow 84 = .ok (.aload_n 0, 1) := by decide +kernel
theorem dX10_lineNow_85 : decode cX10_lineNow 85 = .ok (.iconst 4, 1) := by decide +kernel
theorem dX10_lineNow_86 : decode cX10_lineNow 86 = .ok (.bipush 99, 2) := by decide +kernel
theorem dX10_lineNow_88 : decode cX10_lineNow 88 = .ok (.bipush 111, 2) := by decide +kernel
theorem dX10_lineNow_90 : decode cX10_lineNow 90 = .ok (.bipush 105, 2) := by decide +kernel
theorem dX10_lineNow_92 : decode cX10_lineNow 92 = .ok (.invokevirtual 115, 3) := by decide +kernel
theorem dX10_lineNow_95 : decode cX10_lineNow 95 = .ok (.ifCond .eq 18, 3) := by decide +kernel
theorem dX10_lineNow_98 : decode cX10_lineNow 98 = .ok (.aload_n 0, 1) := by decide +kernel
theorem dX10_lineNow_99 : decode cX10_lineNow 99 = .ok (.bipush 110, 2) := by decide +kernel
theorem dX10_lineNow_101 : decode cX10_lineNow 101 = .ok (.iconst 0, 1) := by decide +kernel
theorem dX10_lineNow_102 : decode cX10_lineNow 102 = .ok (.iconst 0, 1) := by decide +kernel
theorem dX10_lineNow_103 : decode cX10_lineNow 103 = .ok (.invokevirtual 119, 3) := by decide +kernel
theorem dX10_lineNow_106 : decode cX10_lineNow 106 = .ok (.ifCond .eq 7, 3) := by decide +kernel
theorem dX10_lineNow_109 : decode cX10_lineNow 109 = .ok (.iconst 3, 1) := by decide +kernel
theorem dX10_lineNow_110 : decode cX10_lineNow 110 = .ok (.goto 34, 3) := by decide +kernel
theorem dX10_lineNow_113 : decode cX10_lineNow 113 = .ok (.aload_n 0, 1) := by decide +kernel
theorem dX10_lineNow_114 : decode cX10_lineNow 114 = .ok (.iconst 4, 1) := by decide +kernel
theorem dX10_lineNow_115 : decode cX10_lineNow 115 = .ok (.bipush 99, 2) := by decide +kernel
theorem dX10_lineNow_117 : decode cX10_lineNow 117 = .ok (.bipush 114, 2) := by decide +kernel
theorem dX10_lineNow_119 : decode cX10_lineNow 119 = .ok (.bipush 97, 2) := by decide +kernel
theorem dX10_lineNow_121 : decode cX10_lineNow 121 = .ok (.invokevirtual 115, 3) := by decide +kernel
theorem dX10_lineNow_124 : decode cX10_lineNow 124 = .ok (.ifCond .eq 18, 3) := by decide +kernel
theorem dX10_lineNow_127 : decode cX10_lineNow 127 = .ok (.aload_n 0, 1) := by decide +kernel
theorem dX10_lineNow_128 : decode cX10_lineNow 128 = .ok (.bipush 98, 2) := by decide +kernel
theorem dX10_lineNow_130 : decode cX10_lineNow 130 = .ok (.iconst 0, 1) := by decide +kernel
theorem dX10_lineNow_131 : decode cX10_lineNow 131 = .ok (.iconst 0, 1) := by decide +kernel
theorem dX10_lineNow_132 : decode cX10_lineNow 132 = .ok (.invokevirtual 119, 3) := by decide +kernel
theorem dX10_lineNow_135 : decode cX10_lineNow 135 = .ok (.ifCond .eq 7, 3) := by decide +kernel
theorem dX10_lineNow_138 : decode cX10_lineNow 138 = .ok (.iconst 4, 1) := by decide +kernel
theorem dX10_lineNow_139 : decode cX10_lineNow 139 = .ok (.goto 5, 3) := by decide +kernel
theorem dX10_lineNow_142 : decode cX10_lineNow 142 = .ok (.bipush (-4), 2) := by decide +kernel
theorem dX10_lineNow_144 : decode cX10_lineNow 144 = .ok (.ireturn, 1) := by decide +kernel
theorem dX10_next_0 : decode cX10_next 0 = .ok (.aload_n 0, 1) := by decide +kernel
theorem dX10_next_1 : decode cX10_next 1 = .ok (.getfield 99, 3) := by decide +kernel
theorem dX10_next_4 : decode cX10_next 4 = .ok (.ifCond .le 4, 3) := by decide +kernel
theorem dX10_next_7 : decode cX10_next 7 = .ok (.return_, 1) := by decide +kernel
theorem dX10_next_8 : decode cX10_next 8 = .ok (.aload_n 0, 1) := by decide +kernel
theorem dX10_next_9 : decode cX10_next 9 = .ok (.aload_n 0, 1) := by decide +kernel
theorem dX10_next_10 : decode cX10_next 10 = .ok (.getfield 108, 3) := by decide +kernel
theorem dX10_next_13 : decode cX10_next 13 = .ok (.invokevirtual 111, 3) := by decide +kernel
theorem dX10_next_16 : decode cX10_next 16 = .ok (.bipush 32, 2) := by decide +kernel
theorem dX10_next_18 : decode cX10_next 18 = .ok (.if_icmp .ne 16, 3) := by decide +kernel
theorem dX10_next_21 : decode cX10_next 21 = .ok (.aload_n 0, 1) := by decide +kernel
theorem dX10_next_22 : decode cX10_next 22 = .ok (.dup, 1) := by decide +kernel
theorem dX10_next_23 : decode cX10_next 23 = .ok (.getfield 108, 3) := by decide +kernel
theorem dX10_next_26 : decode cX10_next 26 = .ok (.iconst 1, 1) := by decide +kernel
theorem dX10_next_27 : decode cX10_next 27 = .ok (.iadd, 1) := by decide +kernel
theorem dX10_next_28 : decode cX10_next 28 = .ok (.putfield 108, 3) := by decide +kernel
theorem dX10_next_31 : decode cX10_next 31 = .ok (.goto (-23), 3) := by decide +kernel
theorem dX10_next_34 : decode cX10_next 34 = .ok (.aload_n 0, 1) := by decide +kernel
theorem dX10_next_35 : decode cX10_next 35 = .ok (.aload_n 0, 1) := by decide +kernel
theorem dX10_next_36 : decode cX10_next 36 = .ok (.getfield 108, 3) := by decide +kernel
theorem dX10_next_39 : decode cX10_next 39 = .ok (.putfield 102, 3) := by decide +kernel
theorem dX10_next_42 : decode cX10_next 42 = .ok (.aload_n 0, 1) := by decide +kernel
theorem dX10_next_43 : decode cX10_next 43 = .ok (.aload_n 0, 1) := by decide +kernel
theorem dX10_next_44 : decode cX10_next 44 = .ok (.getfield 108, 3) := by decide +kernel
theorem dX10_next_47 : decode cX10_next 47 = .ok (.invokevirtual 111, 3) := by decide +kernel
theorem dX10_next_50 : decode cX10_next 50 = .ok (.istore_n 1, 1) := by decide +kernel
theorem dX10_next_51 : decode cX10_next 51 = .ok (.iload_n 1, 1) := by decide +kernel
theorem dX10_next_52 : decode cX10_next 52 = .ok (.ifCond .ge 11, 3) := by decide +kernel
theorem dX10_next_55 : decode cX10_next 55 = .ok (.aload_n 0, 1) := by decide +kernel
theorem dX10_next_56 : decode cX10_next 56 = .ok (.iconst 0, 1) := by decide +kernel
theorem dX10_next_57 : decode cX10_next 57 = .ok (.putfield 123, 3) := by decide +kernel
theorem dX10_next_60 : decode cX10_next 60 = .ok (.goto 214, 3) := by decide +kernel
theorem dX10_next_63 : decode cX10_next 63 = .ok (.iload_n 1, 1) := by decide +kernel
theorem dX10_next_64 : decode cX10_next 64 = .ok (.i2l, 1) := by decide +kernel
theorem dX10_next_65 : decode cX10_next 65 = .ok (.ldc2_w 126, 3) := by decide +kernel
theorem dX10_next_68 : decode cX10_next 68 = .ok (.ldc2_w 128, 3) := by decide +kernel
theorem dX10_next_71 : decode cX10_next 71 = .ok (.invokestatic 95, 3) := by decide +kernel
theorem dX10_next_74 : decode cX10_next 74 = .ok (.ifCond .eq 42, 3) := by decide +kernel
theorem dX10_next_77 : decode cX10_next 77 = .ok (.aload_n 0, 1) := by decide +kernel
theorem dX10_next_78 : decode cX10_next 78 = .ok (.iconst 1, 1) := by decide +kernel
theorem dX10_next_79 : decode cX10_next 79 = .ok (.putfield 123, 3) := by decide +kernel
theorem dX10_next_82 : decode cX10_next 82 = .ok (.aload_n 0, 1) := by decide +kernel
theorem dX10_next_83 : decode cX10_next 83 = .ok (.aload_n 0, 1) := by decide +kernel
theorem dX10_next_84 : decode cX10_next 84 = .ok (.getfield 108, 3) := by decide +kernel
theorem dX10_next_87 : decode cX10_next 87 = .ok (.invokevirtual 111, 3) := by decide +kernel
theorem dX10_next_90 : decode cX10_next 90 = .ok (.i2l, 1) := by decide +kernel
theorem dX10_next_91 : decode cX10_next 91 = .ok (.ldc2_w 126, 3) := by decide +kernel
theorem dX10_next_94 : decode cX10_next 94 = .ok (.ldc2_w 128, 3) := by decide +kernel
theorem dX10_next_97 : decode cX10_next 97 = .ok (.invokestatic 95, 3) := by decide +kernel
theorem dX10_next_100 : decode cX10_next 100 = .ok (.ifCond .eq 174, 3) := by decide +kernel
theorem dX10_next_103 : decode cX10_next 103 = .ok (.aload_n 0, 1) := by decide +kernel
theorem dX10_next_104 : decode cX10_next 104 = .ok (.dup, 1) := by decide +kernel
theorem dX10_next_105 : decode cX10_next 105 = .ok (.getfield 108, 3) := by decide +kernel
theorem dX10_next_108 : decode cX10_next 108 = .ok (.iconst 1, 1) := by decide +kernel
theorem dX10_next_109 : decode cX10_next 109 = .ok (.iadd, 1) := by decide +kernel
theorem dX10_next_110 : decode cX10_next 110 = .ok (.putfield 108, 3) := by decide +kernel
theorem dX10_next_113 : decode cX10_next 113 = .ok (.goto (-31), 3) := by decide +kernel
theorem dX10_next_116 : decode cX10_next 116 = .ok (.iload_n 1, 1) := by decide +kernel
theorem dX10_next_117 : decode cX10_next 117 = .ok (.i2l, 1) := by decide +kernel
theorem dX10_next_118 : decode cX10_next 118 = .ok (.ldc2_w 130, 3) := by decide +kernel
theorem dX10_next_121 : decode cX10_next 121 = .ok (.ldc2_w 132, 3) := by decide +kernel
theorem dX10_next_124 : decode cX10_next 124 = .ok (.invokestatic 95, 3) := by decide +kernel
theorem dX10_next_127 : decode cX10_next 127 = .ok (.ifCond .eq 116, 3) := by decide +kernel
theorem dX10_next_130 : decode cX10_next 130 = .ok (.aload_n 0, 1) := by decide +kernel
theorem dX10_next_131 : decode cX10_next 131 = .ok (.iconst 2, 1) := by decide +kernel
theorem dX10_next_132 : decode cX10_next 132 = .ok (.putfield 123, 3) := by decide +kernel
theorem dX10_next_135 : decode cX10_next 135 = .ok (.aload_n 0, 1) := by decide +kernel
theorem dX10_next_136 : decode cX10_next 136 = .ok (.iconst 0, 1) := by decide +kernel
theorem dX10_next_137 : decode cX10_next 137 = .ok (.putfield 134, 3) := by decide +kernel
theorem dX10_next_140 : decode cX10_next 140 = .ok (.aload_n 0, 1) := by decide +kernel
theorem dX10_next_141 : decode cX10_next 141 = .ok (.aload_n 0, 1) := by decide +kernel
theorem dX10_next_142 : decode cX10_next 142 = .ok (.getfield 108, 3) := by decide +kernel
theorem dX10_next_145 : decode cX10_next 145 = .ok (.invokevirtual 111, 3) := by decide +kernel
theorem dX10_next_148 : decode cX10_next 148 = .ok (.i2l, 1) := by decide +kernel
theorem dX10_next_149 : decode cX10_next 149 = .ok (.ldc2_w 130, 3) := by decide +kernel
theorem dX10_next_152 : decode cX10_next 152 = .ok (.ldc2_w 132, 3) := by decide +kernel
theorem dX10_next_155 : decode cX10_next 155 = .ok (.invokestatic 95, 3) := by decide +kernel
theorem dX10_next_158 : decode cX10_next 158 = .ok (.ifCond .eq 59, 3) := by decide +kernel
theorem dX10_next_161 : decode cX10_next 161 = .ok (.aload_n 0, 1) := by decide +kernel
theorem dX10_next_162 : decode cX10_next 162 = .ok (.aload_n 0, 1) := by decide +kernel
theorem dX10_next_163 : decode cX10_next 163 = .ok (.getfield 108, 3) := by decide +kernel
theorem dX10_next_166 : decode cX10_next 166 = .ok (.aload_n 0, 1) := by decide +kernel
theorem dX10_next_167 : decode cX10_next 167 = .ok (.getfield 102, 3) := by decide +kernel
theorem dX10_next_170 : decode cX10_next 170 = .ok (.isub, 1) := by decide +kernel
theorem dX10_next_171 : decode cX10_next 171 = .ok (.iconst 2, 1) := by decide +kernel
theorem dX10_next_172 : decode cX10_next 172 = .ok (.if_icmp .ge 25, 3) := by decide +kernel
theorem dX10_next_175 : decode cX10_next 175 = .ok (.bipush 10, 2) := by decide +kernel
theorem dX10_next_177 : decode cX10_next 177 = .ok (.aload_n 0, 1) := by decide +kernel
theorem dX10_next_178 : decode cX10_next 178 = .ok (.getfield 134, 3) := by decide +kernel
theorem dX10_next_181 : decode cX10_next 181 = .ok (.imul, 1) := by decide +kernel
theorem dX10_next_182 : decode cX10_next 182 = .ok (.aload_n 0, 1) := by decide +kernel
theorem dX10_next_183 : decode cX10_next 183 = .ok (.aload_n 0, 1) := by decide +kernel
theorem dX10_next_184 : decode cX10_next 184 = .ok (.getfield 108, 3) := by decide +kernel
theorem dX10_next_187 : decode cX10_next 187 = .ok (.invokevirtual 111, 3) := by decide +kernel
theorem dX10_next_190 : decode cX10_next 190 = .ok (.iadd, 1) := by decide +kernel
theorem dX10_next_191 : decode cX10_next 191 = .ok (.bipush 48, 2) := by decide +kernel
theorem dX10_next_193 : decode cX10_next 193 = .ok (.isub, 1) := by decide +kernel
theorem dX10_next_194 : decode cX10_next 194 = .ok (.goto 7, 3) := by decide +kernel
theorem dX10_next_197 : decode cX10_next 197 = .ok (.aload_n 0, 1) := by decide +kernel
theorem dX10_next_198 : decode cX10_next 198 = .ok (.getfield 134, 3) := by decide +kernel
theorem dX10_next_201 : decode cX10_next 201 = .ok (.putfield 134, 3) := by decide +kernel
theorem dX10_next_204 : decode cX10_next 204 = .ok (.aload_n 0, 1) := by decide +kernel
theorem dX10_next_205 : decode cX10_next 205 = .ok (.dup, 1) := by decide +kernel
theorem dX10_next_206 : decode cX10_next 206 = .ok (.getfield 108, 3) := by decide +kernel
theorem dX10_next_209 : decode cX10_next 209 = .ok (.iconst 1, 1) := by decide +kernel
theorem dX10_next_210 : decode cX10_next 210 = .ok (.iadd, 1) := by decide +kernel
theorem dX10_next_211 : decode cX10_next 211 = .ok (.putfield 108, 3) := by decide +kernel
theorem dX10_next_214 : decode cX10_next 214 = .ok (.goto (-74), 3) := by decide +kernel
theorem dX10_next_217 : decode cX10_next 217 = .ok (.aload_n 0, 1) := by decide +kernel
theorem dX10_next_218 : decode cX10_next 218 = .ok (.aload_n 0, 1) := by decide +kernel
theorem dX10_next_219 : decode cX10_next 219 = .ok (.getfield 108, 3) := by decide +kernel
theorem dX10_next_222 : decode cX10_next 222 = .ok (.aload_n 0, 1) := by decide +kernel
theorem dX10_next_223 : decode cX10_next 223 = .ok (.getfield 102, 3) := by decide +kernel
theorem dX10_next_226 : decode cX10_next 226 = .ok (.isub, 1) := by decide +kernel
theorem dX10_next_227 : decode cX10_next 227 = .ok (.iconst 2, 1) := by decide +kernel
theorem dX10_next_228 : decode cX10_next 228 = .ok (.if_icmp .gt 7, 3) := by decide +kernel
theorem dX10_next_231 : decode cX10_next 231 = .ok (.iconst 1, 1) := by decide +kernel
theorem dX10_next_232 : decode cX10_next 232 = .ok (.goto 4, 3) := by decide +kernel
theorem dX10_next_235 : decode cX10_next 235 = .ok (.iconst 0, 1) := by decide +kernel
theorem dX10_next_236 : decode cX10_next 236 = .ok (.iconst 1, 1) := by decide +kernel
theorem dX10_next_237 : decode cX10_next 237 = .ok (.invokevirtual 137, 3) := by decide +kernel
theorem dX10_next_240 : decode cX10_next 240 = .ok (.goto 34, 3) := by decide +kernel
theorem dX10_next_243 : decode cX10_next 243 = .ok (.aload_n 0, 1) := by decide +kernel
theorem dX10_next_244 : decode cX10_next 244 = .ok (.iconst 3, 1) := by decide +kernel
theorem dX10_next_245 : decode cX10_next 245 = .ok (.putfield 123, 3) := by decide +kernel
theorem dX10_next_248 : decode cX10_next 248 = .ok (.aload_n 0, 1) := by decide +kernel
theorem dX10_next_249 : decode cX10_next 249 = .ok (.iload_n 1, 1) := by decide +kernel
theorem dX10_next_250 : decode cX10_next 250 = .ok (.bipush 59, 2) := by decide +kernel
theorem dX10_next_252 : decode cX10_next 252 = .ok (.if_icmp .ne 7, 3) := by decide +kernel
theorem dX10_next_255 : decode cX10_next 255 = .ok (.iconst 1, 1) := by decide +kernel
theorem dX10_next_256 : decode cX10_next 256 = .ok (.goto 4, 3) := by decide +kernel
theorem dX10_next_259 : decode cX10_next 259 = .ok (.iconst 0, 1) := by decide +kernel
theorem dX10_next_260 : decode cX10_next 260 = .ok (.iconst 1, 1) := by decide +kernel
theorem dX10_next_261 : decode cX10_next 261 = .ok (.invokevirtual 137, 3) := by decide +kernel
theorem dX10_next_264 : decode cX10_next 264 = .ok (.aload_n 0, 1) := by decide +kernel
theorem dX10_next_265 : decode cX10_next 265 = .ok (.dup, 1) := by decide +kernel
theorem dX10_next_266 : decode cX10_next 266 = .ok (.getfield 108, 3) := by decide +kernel
theorem dX10_next_269 : decode cX10_next 269 = .ok (.iconst 1, 1) := by decide +kernel
theorem dX10_next_270 : decode cX10_next 270 = .ok (.iadd, 1) := by decide +kernel
theorem dX10_next_271 : decode cX10_next 271 = .ok (.putfield 108, 3) := by decide +kernel
theorem dX10_next_274 : decode cX10_next 274 = .ok (.return_, 1) := by decide +kernel
theorem dX10_looked_0 : decode cX10_looked 0 = .ok (.aload_n 0, 1) := by decide +kernel
theorem dX10_looked_1 : decode cX10_looked 1 = .ok (.getfield 99, 3) := by decide +kernel
theorem dX10_looked_4 : decode cX10_looked 4 = .ok (.ifCond .ne 21, 3) := by decide +kernel
theorem dX10_looked_7 : decode cX10_looked 7 = .ok (.aload_n 0, 1) := by decide +kernel
theorem dX10_looked_8 : decode cX10_looked 8 = .ok (.aload_n 0, 1) := by decide +kernel
theorem dX10_looked_9 : decode cX10_looked 9 = .ok (.getfield 123, 3) := by decide +kernel
theorem dX10_looked_12 : decode cX10_looked 12 = .ok (.iconst 2, 1) := by decide +kernel
theorem dX10_looked_13 : decode cX10_looked 13 = .ok (.if_icmp .ne 7, 3) := by decide +kernel
theorem dX10_looked_16 : decode cX10_looked 16 = .ok (.iconst 1, 1) := by decide +kernel
theorem dX10_looked_17 : decode cX10_looked 17 = .ok (.goto 4, 3) := by decide +kernel
theorem dX10_looked_20 : decode cX10_looked 20 = .ok (.iconst 0, 1) := by decide +kernel
theorem dX10_looked_21 : decode cX10_looked 21 = .ok (.iconst 2, 1) := by decide +kernel
theorem dX10_looked_22 : decode cX10_looked 22 = .ok (.invokevirtual 137, 3) := by decide +kernel
theorem dX10_looked_25 : decode cX10_looked 25 = .ok (.aload_n 0, 1) := by decide +kernel
theorem dX10_looked_26 : decode cX10_looked 26 = .ok (.getfield 99, 3) := by decide +kernel
theorem dX10_looked_29 : decode cX10_looked 29 = .ok (.ifCond .ne 20, 3) := by decide +kernel
theorem dX10_looked_32 : decode cX10_looked 32 = .ok (.aload_n 0, 1) := by decide +kernel
theorem dX10_looked_33 : decode cX10_looked 33 = .ok (.aload_n 0, 1) := by decide +kernel
theorem dX10_looked_34 : decode cX10_looked 34 = .ok (.getfield 134, 3) := by decide +kernel
theorem dX10_looked_37 : decode cX10_looked 37 = .ok (.i2l, 1) := by decide +kernel
theorem dX10_looked_38 : decode cX10_looked 38 = .ok (.iload_n 1, 1) := by decide +kernel
theorem dX10_looked_39 : decode cX10_looked 39 = .ok (.i2l, 1) := by decide +kernel
theorem dX10_looked_40 : decode cX10_looked 40 = .ok (.iload_n 2, 1) := by decide +kernel
theorem dX10_looked_41 : decode cX10_looked 41 = .ok (.i2l, 1) := by decide +kernel
theorem dX10_looked_42 : decode cX10_looked 42 = .ok (.invokestatic 95, 3) := by decide +kernel
theorem dX10_looked_45 : decode cX10_looked 45 = .ok (.iconst 3, 1) := by decide +kernel
theorem dX10_looked_46 : decode cX10_looked 46 = .ok (.invokevirtual 137, 3) := by decide +kernel
theorem dX10_looked_49 : decode cX10_looked 49 = .ok (.aload_n 0, 1) := by decide +kernel
theorem dX10_looked_50 : decode cX10_looked 50 = .ok (.getfield 99, 3) := by decide +kernel
theorem dX10_looked_53 : decode cX10_looked 53 = .ok (.ifCond .ne 10, 3) := by decide +kernel
theorem dX10_looked_56 : decode cX10_looked 56 = .ok (.aload_n 0, 1) := by decide +kernel
theorem dX10_looked_57 : decode cX10_looked 57 = .ok (.getfield 134, 3) := by decide +kernel
theorem dX10_looked_60 : decode cX10_looked 60 = .ok (.goto 4, 3) := by decide +kernel
theorem dX10_looked_63 : decode cX10_looked 63 = .ok (.iconst 0, 1) := by decide +kernel
theorem dX10_looked_64 : decode cX10_looked 64 = .ok (.ireturn, 1) := by decide +kernel
theorem dX10_readNumber_0 : decode cX10_readNumber 0 = .ok (.aload_n 0, 1) := by decide +kernel
theorem dX10_readNumber_1 : decode cX10_readNumber 1 = .ok (.iload_n 1, 1) := by decide +kernel
theorem dX10_readNumber_2 : decode cX10_readNumber 2 = .ok (.iload_n 2, 1) := by decide +kernel
theorem dX10_readNumber_3 : decode cX10_readNumber 3 = .ok (.invokevirtual 141, 3) := by decide +kernel
theorem dX10_readNumber_6 : decode cX10_readNumber 6 = .ok (.istore_n 3, 1) := by decide +kernel
theorem dX10_readNumber_7 : decode cX10_readNumber 7 = .ok (.aload_n 0, 1) := by decide +kernel
theorem dX10_readNumber_8 : decode cX10_readNumber 8 = .ok (.invokevirtual 145, 3) := by decide +kernel
theorem dX10_readNumber_11 : decode cX10_readNumber 11 = .ok (.iload_n 3, 1) := by decide +kernel
theorem dX10_readNumber_12 : decode cX10_readNumber 12 = .ok (.ireturn, 1) := by decide +kernel
theorem dX10_lookedPlace_0 : decode cX10_lookedPlace 0 = .ok (.aload_n 0, 1) := by decide +kernel
theorem dX10_lookedPlace_1 : decode cX10_lookedPlace 1 = .ok (.iconst 0, 1) := by decide +kernel
theorem dX10_lookedPlace_2 : decode cX10_lookedPlace 2 = .ok (.bipush 7, 2) := by decide +kernel
theorem dX10_lookedPlace_4 : decode cX10_lookedPlace 4 = .ok (.invokevirtual 141, 3) := by decide +kernel
theorem dX10_lookedPlace_7 : decode cX10_lookedPlace 7 = .ok (.istore_n 1, 1) := by decide +kernel
theorem dX10_lookedPlace_8 : decode cX10_lookedPlace 8 = .ok (.aload_n 0, 1) := by decide +kernel
theorem dX10_lookedPlace_9 : decode cX10_lookedPlace 9 = .ok (.getfield 99, 3) := by decide +kernel
theorem dX10_lookedPlace_12 : decode cX10_lookedPlace 12 = .ok (.ifCond .ne 23, 3) := by decide +kernel
theorem dX10_lookedPlace_15 : decode cX10_lookedPlace 15 = .ok (.aload_n 0, 1) := by decide +kernel
theorem dX10_lookedPlace_16 : decode cX10_lookedPlace 16 = .ok (.iload_n 1, 1) := by decide +kernel
theorem dX10_lookedPlace_17 : decode cX10_lookedPlace 17 = .ok (.aload_n 0, 1) := by decide +kernel
theorem dX10_lookedPlace_18 : decode cX10_lookedPlace 18 = .ok (.getfield 81, 3) := by decide +kernel
theorem dX10_lookedPlace_21 : decode cX10_lookedPlace 21 = .ok (.if_icmp .le 7, 3) := by decide +kernel
theorem dX10_lookedPlace_24 : decode cX10_lookedPlace 24 = .ok (.iload_n 1, 1) := by decide +kernel
theorem dX10_lookedPlace_25 : decode cX10_lookedPlace 25 = .ok (.goto 7, 3) := by decide +kernel
theorem dX10_lookedPlace_28 : decode cX10_lookedPlace 28 = .ok (.aload_n 0, 1) := by decide +kernel
theorem dX10_lookedPlace_29 : decode cX10_lookedPlace 29 = .ok (.getfield 81, 3) := by decide +kernel
theorem dX10_lookedPlace_32 : decode cX10_lookedPlace 32 = .ok (.putfield 81, 3) := by decide +kernel
theorem dX10_lookedPlace_35 : decode cX10_lookedPlace 35 = .ok (.iload_n 1, 1) := by decide +kernel
theorem dX10_lookedPlace_36 : decode cX10_lookedPlace 36 = .ok (.ireturn, 1) := by decide +kernel
theorem dX10_readPlace_0 : decode cX10_readPlace 0 = .ok (.aload_n 0, 1) := by decide +kernel
theorem dX10_readPlace_1 : decode cX10_readPlace 1 = .ok (.invokevirtual 148, 3) := by decide +kernel
theorem dX10_readPlace_4 : decode cX10_readPlace 4 = .ok (.istore_n 1, 1) := by decide +kernel
theorem dX10_readPlace_5 : decode cX10_readPlace 5 = .ok (.aload_n 0, 1) := by decide +kernel
theorem dX10_readPlace_6 : decode cX10_readPlace 6 = .ok (.invokevirtual 145, 3) := by decide +kernel
theorem dX10_readPlace_9 : decode cX10_readPlace 9 = .ok (.iload_n 1, 1) := by decide +kernel
theorem dX10_readPlace_10 : decode cX10_readPlace 10 = .ok (.ireturn, 1) := by decide +kernel
