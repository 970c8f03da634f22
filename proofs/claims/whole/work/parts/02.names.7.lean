theorem dX10_isWhere_0 : decode cX10_isWhere 0 = .ok (.iload_n 0, 1) := by decide +kernel
theorem dX10_isWhere_1 : decode cX10_isWhere 1 = .ok (.i2l, 1) := by decide +kernel
theorem dX10_isWhere_2 : decode cX10_isWhere 2 = .ok (.lconst 0, 1) := by decide +kernel
theorem dX10_isWhere_3 : decode cX10_isWhere 3 = .ok (.ldc2_w 251, 3) := by decide +kernel
theorem dX10_isWhere_6 : decode cX10_isWhere 6 = .ok (.invokestatic 95, 3) := by decide +kernel
theorem dX10_isWhere_9 : decode cX10_isWhere 9 = .ok (.ifCond .ne 37, 3) := by decide +kernel
theorem dX10_isWhere_12 : decode cX10_isWhere 12 = .ok (.iload_n 0, 1) := by decide +kernel
theorem dX10_isWhere_13 : decode cX10_isWhere 13 = .ok (.i2l, 1) := by decide +kernel
theorem dX10_isWhere_14 : decode cX10_isWhere 14 = .ok (.ldc2_w 243, 3) := by decide +kernel
theorem dX10_isWhere_17 : decode cX10_isWhere 17 = .ok (.ldc2_w 245, 3) := by decide +kernel
theorem dX10_isWhere_20 : decode cX10_isWhere 20 = .ok (.invokestatic 95, 3) := by decide +kernel
theorem dX10_isWhere_23 : decode cX10_isWhere 23 = .ok (.ifCond .ne 23, 3) := by decide +kernel
theorem dX10_isWhere_26 : decode cX10_isWhere 26 = .ok (.iload_n 0, 1) := by decide +kernel
theorem dX10_isWhere_27 : decode cX10_isWhere 27 = .ok (.i2l, 1) := by decide +kernel
theorem dX10_isWhere_28 : decode cX10_isWhere 28 = .ok (.ldc2_w 253, 3) := by decide +kernel
theorem dX10_isWhere_31 : decode cX10_isWhere 31 = .ok (.ldc2_w 255, 3) := by decide +kernel
theorem dX10_isWhere_34 : decode cX10_isWhere 34 = .ok (.invokestatic 95, 3) := by decide +kernel
theorem dX10_isWhere_37 : decode cX10_isWhere 37 = .ok (.ifCond .ne 9, 3) := by decide +kernel
theorem dX10_isWhere_40 : decode cX10_isWhere 40 = .ok (.iload_n 0, 1) := by decide +kernel
theorem dX10_isWhere_41 : decode cX10_isWhere 41 = .ok (.bipush 30, 2) := by decide +kernel
theorem dX10_isWhere_43 : decode cX10_isWhere 43 = .ok (.if_icmp .ne 7, 3) := by decide +kernel
theorem dX10_isWhere_46 : decode cX10_isWhere 46 = .ok (.iconst 1, 1) := by decide +kernel
theorem dX10_isWhere_47 : decode cX10_isWhere 47 = .ok (.goto 4, 3) := by decide +kernel
theorem dX10_isWhere_50 : decode cX10_isWhere 50 = .ok (.iconst 0, 1) := by decide +kernel
theorem dX10_isWhere_51 : decode cX10_isWhere 51 = .ok (.ireturn, 1) := by decide +kernel
theorem dX10_see_0 : decode cX10_see 0 = .ok (.iload_n 1, 1) := by decide +kernel
theorem dX10_see_1 : decode cX10_see 1 = .ok (.i2l, 1) := by decide +kernel
theorem dX10_see_2 : decode cX10_see 2 = .ok (.lconst 0, 1) := by decide +kernel
theorem dX10_see_3 : decode cX10_see 3 = .ok (.ldc2_w 253, 3) := by decide +kernel
theorem dX10_see_6 : decode cX10_see 6 = .ok (.invokestatic 95, 3) := by decide +kernel
theorem dX10_see_9 : decode cX10_see 9 = .ok (.ifCond .eq 18, 3) := by decide +kernel
theorem dX10_see_12 : decode cX10_see 12 = .ok (.aload_n 0, 1) := by decide +kernel
theorem dX10_see_13 : decode cX10_see 13 = .ok (.iload_n 2, 1) := by decide +kernel
theorem dX10_see_14 : decode cX10_see 14 = .ok (.invokevirtual 219, 3) := by decide +kernel
theorem dX10_see_17 : decode cX10_see 17 = .ok (.ifCond .eq 10, 3) := by decide +kernel
theorem dX10_see_20 : decode cX10_see 20 = .ok (.iload_n 3, 1) := by decide +kernel
theorem dX10_see_21 : decode cX10_see 21 = .ok (.invokestatic 257, 3) := by decide +kernel
theorem dX10_see_24 : decode cX10_see 24 = .ok (.ifCond .ne 5, 3) := by decide +kernel
theorem dX10_see_27 : decode cX10_see 27 = .ok (.iconst (-1), 1) := by decide +kernel
theorem dX10_see_28 : decode cX10_see 28 = .ok (.ireturn, 1) := by decide +kernel
theorem dX10_see_29 : decode cX10_see 29 = .ok (.aload_n 0, 1) := by decide +kernel
theorem dX10_see_30 : decode cX10_see 30 = .ok (.getfield 7, 3) := by decide +kernel
theorem dX10_see_33 : decode cX10_see 33 = .ok (.bipush 46, 2) := by decide +kernel
theorem dX10_see_35 : decode cX10_see 35 = .ok (.iaload, 1) := by decide +kernel
theorem dX10_see_36 : decode cX10_see 36 = .ok (.bipush 8, 2) := by decide +kernel
theorem dX10_see_38 : decode cX10_see 38 = .ok (.if_icmp .ne 6, 3) := by decide +kernel
theorem dX10_see_41 : decode cX10_see 41 = .ok (.bipush (-3), 2) := by decide +kernel
theorem dX10_see_43 : decode cX10_see 43 = .ok (.ireturn, 1) := by decide +kernel
theorem dX10_see_44 : decode cX10_see 44 = .ok (.bipush 47, 2) := by decide +kernel
theorem dX10_see_46 : decode cX10_see 46 = .ok (.iconst 4, 1) := by decide +kernel
theorem dX10_see_47 : decode cX10_see 47 = .ok (.aload_n 0, 1) := by decide +kernel
theorem dX10_see_48 : decode cX10_see 48 = .ok (.getfield 7, 3) := by decide +kernel
theorem dX10_see_51 : decode cX10_see 51 = .ok (.bipush 46, 2) := by decide +kernel
theorem dX10_see_53 : decode cX10_see 53 = .ok (.iaload, 1) := by decide +kernel
theorem dX10_see_54 : decode cX10_see 54 = .ok (.imul, 1) := by decide +kernel
theorem dX10_see_55 : decode cX10_see 55 = .ok (.iadd, 1) := by decide +kernel
theorem dX10_see_56 : decode cX10_see 56 = .ok (.istore 5, 2) := by decide +kernel
theorem dX10_see_58 : decode cX10_see 58 = .ok (.aload_n 0, 1) := by decide +kernel
theorem dX10_see_59 : decode cX10_see 59 = .ok (.getfield 7, 3) := by decide +kernel
theorem dX10_see_62 : decode cX10_see 62 = .ok (.iload 5, 2) := by decide +kernel
theorem dX10_see_64 : decode cX10_see 64 = .ok (.iload_n 1, 1) := by decide +kernel
theorem dX10_see_65 : decode cX10_see 65 = .ok (.iastore, 1) := by decide +kernel
theorem dX10_see_66 : decode cX10_see 66 = .ok (.aload_n 0, 1) := by decide +kernel
theorem dX10_see_67 : decode cX10_see 67 = .ok (.getfield 7, 3) := by decide +kernel
theorem dX10_see_70 : decode cX10_see 70 = .ok (.iload 5, 2) := by decide +kernel
theorem dX10_see_72 : decode cX10_see 72 = .ok (.iconst 1, 1) := by decide +kernel
theorem dX10_see_73 : decode cX10_see 73 = .ok (.iadd, 1) := by decide +kernel
theorem dX10_see_74 : decode cX10_see 74 = .ok (.iload_n 2, 1) := by decide +kernel
theorem dX10_see_75 : decode cX10_see 75 = .ok (.iastore, 1) := by decide +kernel
theorem dX10_see_76 : decode cX10_see 76 = .ok (.aload_n 0, 1) := by decide +kernel
theorem dX10_see_77 : decode cX10_see 77 = .ok (.getfield 7, 3) := by decide +kernel
theorem dX10_see_80 : decode cX10_see 80 = .ok (.iload 5, 2) := by decide +kernel
theorem dX10_see_82 : decode cX10_see 82 = .ok (.iconst 2, 1) := by decide +kernel
theorem dX10_see_83 : decode cX10_see 83 = .ok (.iadd, 1) := by decide +kernel
theorem dX10_see_84 : decode cX10_see 84 = .ok (.iload_n 3, 1) := by decide +kernel
theorem dX10_see_85 : decode cX10_see 85 = .ok (.iastore, 1) := by decide +kernel
theorem dX10_see_86 : decode cX10_see 86 = .ok (.aload_n 0, 1) := by decide +kernel
theorem dX10_see_87 : decode cX10_see 87 = .ok (.getfield 7, 3) := by decide +kernel
theorem dX10_see_90 : decode cX10_see 90 = .ok (.iload 5, 2) := by decide +kernel
theorem dX10_see_92 : decode cX10_see 92 = .ok (.iconst 3, 1) := by decide +kernel
theorem dX10_see_93 : decode cX10_see 93 = .ok (.iadd, 1) := by decide +kernel
theorem dX10_see_94 : decode cX10_see 94 = .ok (.iload 4, 2) := by decide +kernel
theorem dX10_see_96 : decode cX10_see 96 = .ok (.invokestatic 158, 3) := by decide +kernel
theorem dX10_see_99 : decode cX10_see 99 = .ok (.iastore, 1) := by decide +kernel
theorem dX10_see_100 : decode cX10_see 100 = .ok (.aload_n 0, 1) := by decide +kernel
theorem dX10_see_101 : decode cX10_see 101 = .ok (.getfield 7, 3) := by decide +kernel
theorem dX10_see_104 : decode cX10_see 104 = .ok (.bipush 46, 2) := by decide +kernel
theorem dX10_see_106 : decode cX10_see 106 = .ok (.dup2, 1) := by decide +kernel
theorem dX10_see_107 : decode cX10_see 107 = .ok (.iaload, 1) := by decide +kernel
theorem dX10_see_108 : decode cX10_see 108 = .ok (.iconst 1, 1) := by decide +kernel
theorem dX10_see_109 : decode cX10_see 109 = .ok (.iadd, 1) := by decide +kernel
theorem dX10_see_110 : decode cX10_see 110 = .ok (.iastore, 1) := by decide +kernel
theorem dX10_see_111 : decode cX10_see 111 = .ok (.aload_n 0, 1) := by decide +kernel
theorem dX10_see_112 : decode cX10_see 112 = .ok (.getfield 7, 3) := by decide +kernel
theorem dX10_see_115 : decode cX10_see 115 = .ok (.bipush 46, 2) := by decide +kernel
theorem dX10_see_117 : decode cX10_see 117 = .ok (.iaload, 1) := by decide +kernel
theorem dX10_see_118 : decode cX10_see 118 = .ok (.ireturn, 1) := by decide +kernel
theorem dX10_forget_0 : decode cX10_forget 0 = .ok (.iload_n 1, 1) := by decide +kernel
theorem dX10_forget_1 : decode cX10_forget 1 = .ok (.i2l, 1) := by decide +kernel
theorem dX10_forget_2 : decode cX10_forget 2 = .ok (.lconst 0, 1) := by decide +kernel
theorem dX10_forget_3 : decode cX10_forget 3 = .ok (.aload_n 0, 1) := by decide +kernel
theorem dX10_forget_4 : decode cX10_forget 4 = .ok (.getfield 7, 3) := by decide +kernel
theorem dX10_forget_7 : decode cX10_forget 7 = .ok (.bipush 46, 2) := by decide +kernel
theorem dX10_forget_9 : decode cX10_forget 9 = .ok (.iaload, 1) := by decide +kernel
theorem dX10_forget_10 : decode cX10_forget 10 = .ok (.i2l, 1) := by decide +kernel
theorem dX10_forget_11 : decode cX10_forget 11 = .ok (.invokestatic 95, 3) := by decide +kernel
theorem dX10_forget_14 : decode cX10_forget 14 = .ok (.ifCond .ne 5, 3) := by decide +kernel
theorem dX10_forget_17 : decode cX10_forget 17 = .ok (.iconst (-1), 1) := by decide +kernel
theorem dX10_forget_18 : decode cX10_forget 18 = .ok (.ireturn, 1) := by decide +kernel
theorem dX10_forget_19 : decode cX10_forget 19 = .ok (.aload_n 0, 1) := by decide +kernel
theorem dX10_forget_20 : decode cX10_forget 20 = .ok (.getfield 7, 3) := by decide +kernel
theorem dX10_forget_23 : decode cX10_forget 23 = .ok (.bipush 46, 2) := by decide +kernel
theorem dX10_forget_25 : decode cX10_forget 25 = .ok (.iaload, 1) := by decide +kernel
theorem dX10_forget_26 : decode cX10_forget 26 = .ok (.istore_n 2, 1) := by decide +kernel
theorem dX10_forget_27 : decode cX10_forget 27 = .ok (.aload_n 0, 1) := by decide +kernel
theorem dX10_forget_28 : decode cX10_forget 28 = .ok (.getfield 7, 3) := by decide +kernel
theorem dX10_forget_31 : decode cX10_forget 31 = .ok (.bipush 46, 2) := by decide +kernel
theorem dX10_forget_33 : decode cX10_forget 33 = .ok (.iload_n 1, 1) := by decide +kernel
theorem dX10_forget_34 : decode cX10_forget 34 = .ok (.iastore, 1) := by decide +kernel
theorem dX10_forget_35 : decode cX10_forget 35 = .ok (.iload_n 2, 1) := by decide +kernel
theorem dX10_forget_36 : decode cX10_forget 36 = .ok (.ireturn, 1) := by decide +kernel
theorem dX10_isSo_0 : decode cX10_isSo 0 = .ok (.iconst 1, 1) := by decide +kernel
theorem dX10_isSo_1 : decode cX10_isSo 1 = .ok (.istore_n 1, 1) := by decide +kernel
theorem dX10_isSo_2 : decode cX10_isSo 2 = .ok (.iconst 0, 1) := by decide +kernel
theorem dX10_isSo_3 : decode cX10_isSo 3 = .ok (.istore_n 2, 1) := by decide +kernel
theorem dX10_isSo_4 : decode cX10_isSo 4 = .ok (.iload_n 2, 1) := by decide +kernel
theorem dX10_isSo_5 : decode cX10_isSo 5 = .ok (.bipush 20, 2) := by decide +kernel
theorem dX10_isSo_7 : decode cX10_isSo 7 = .ok (.if_icmp .gt 107, 3) := by decide +kernel
theorem dX10_isSo_10 : decode cX10_isSo 10 = .ok (.iconst 0, 1) := by decide +kernel
theorem dX10_isSo_11 : decode cX10_isSo 11 = .ok (.istore_n 3, 1) := by decide +kernel
theorem dX10_isSo_12 : decode cX10_isSo 12 = .ok (.iload_n 3, 1) := by decide +kernel
theorem dX10_isSo_13 : decode cX10_isSo 13 = .ok (.aload_n 0, 1) := by decide +kernel
theorem dX10_isSo_14 : decode cX10_isSo 14 = .ok (.getfield 7, 3) := by decide +kernel
theorem dX10_isSo_17 : decode cX10_isSo 17 = .ok (.bipush 46, 2) := by decide +kernel
theorem dX10_isSo_19 : decode cX10_isSo 19 = .ok (.iaload, 1) := by decide +kernel
theorem dX10_isSo_20 : decode cX10_isSo 20 = .ok (.if_icmp .ge 84, 3) := by decide +kernel
theorem dX10_isSo_23 : decode cX10_isSo 23 = .ok (.bipush 47, 2) := by decide +kernel
theorem dX10_isSo_25 : decode cX10_isSo 25 = .ok (.iconst 4, 1) := by decide +kernel
theorem dX10_isSo_26 : decode cX10_isSo 26 = .ok (.iload_n 3, 1) := by decide +kernel
theorem dX10_isSo_27 : decode cX10_isSo 27 = .ok (.imul, 1) := by decide +kernel
theorem dX10_isSo_28 : decode cX10_isSo 28 = .ok (.iadd, 1) := by decide +kernel
theorem dX10_isSo_29 : decode cX10_isSo 29 = .ok (.istore 4, 2) := by decide +kernel
theorem dX10_isSo_31 : decode cX10_isSo 31 = .ok (.iload_n 1, 1) := by decide +kernel
theorem dX10_isSo_32 : decode cX10_isSo 32 = .ok (.ifCond .eq 64, 3) := by decide +kernel
theorem dX10_isSo_35 : decode cX10_isSo 35 = .ok (.aload_n 0, 1) := by decide +kernel
theorem dX10_isSo_36 : decode cX10_isSo 36 = .ok (.getfield 7, 3) := by decide +kernel
theorem dX10_isSo_39 : decode cX10_isSo 39 = .ok (.iload 4, 2) := by decide +kernel
theorem dX10_isSo_41 : decode cX10_isSo 41 = .ok (.iaload, 1) := by decide +kernel
theorem dX10_isSo_42 : decode cX10_isSo 42 = .ok (.iload_n 2, 1) := by decide +kernel
theorem dX10_isSo_43 : decode cX10_isSo 43 = .ok (.if_icmp .ne 49, 3) := by decide +kernel
theorem dX10_isSo_46 : decode cX10_isSo 46 = .ok (.aload_n 0, 1) := by decide +kernel
theorem dX10_isSo_47 : decode cX10_isSo 47 = .ok (.getfield 29, 3) := by decide +kernel
theorem dX10_isSo_50 : decode cX10_isSo 50 = .ok (.aload_n 0, 1) := by decide +kernel
theorem dX10_isSo_51 : decode cX10_isSo 51 = .ok (.getfield 7, 3) := by decide +kernel
theorem dX10_isSo_54 : decode cX10_isSo 54 = .ok (.iload 4, 2) := by decide +kernel
theorem dX10_isSo_56 : decode cX10_isSo 56 = .ok (.iconst 1, 1) := by decide +kernel
theorem dX10_isSo_57 : decode cX10_isSo 57 = .ok (.iadd, 1) := by decide +kernel
theorem dX10_isSo_58 : decode cX10_isSo 58 = .ok (.iaload, 1) := by decide +kernel
theorem dX10_isSo_59 : decode cX10_isSo 59 = .ok (.iaload, 1) := by decide +kernel
theorem dX10_isSo_60 : decode cX10_isSo 60 = .ok (.aload_n 0, 1) := by decide +kernel
theorem dX10_isSo_61 : decode cX10_isSo 61 = .ok (.getfield 7, 3) := by decide +kernel
theorem dX10_isSo_64 : decode cX10_isSo 64 = .ok (.iload 4, 2) := by decide +kernel
theorem dX10_isSo_66 : decode cX10_isSo 66 = .ok (.iconst 2, 1) := by decide +kernel
theorem dX10_isSo_67 : decode cX10_isSo 67 = .ok (.iadd, 1) := by decide +kernel
theorem dX10_isSo_68 : decode cX10_isSo 68 = .ok (.iaload, 1) := by decide +kernel
theorem dX10_isSo_69 : decode cX10_isSo 69 = .ok (.if_icmp .ne 7, 3) := by decide +kernel
theorem dX10_isSo_72 : decode cX10_isSo 72 = .ok (.iconst 1, 1) := by decide +kernel
theorem dX10_isSo_73 : decode cX10_isSo 73 = .ok (.goto 4, 3) := by decide +kernel
theorem dX10_isSo_76 : decode cX10_isSo 76 = .ok (.iconst 0, 1) := by decide +kernel
theorem dX10_isSo_77 : decode cX10_isSo 77 = .ok (.invokestatic 158, 3) := by decide +kernel
theorem dX10_isSo_80 : decode cX10_isSo 80 = .ok (.aload_n 0, 1) := by decide +kernel
theorem dX10_isSo_81 : decode cX10_isSo 81 = .ok (.getfield 7, 3) := by decide +kernel
theorem dX10_isSo_84 : decode cX10_isSo 84 = .ok (.iload 4, 2) := by decide +kernel
theorem dX10_isSo_86 : decode cX10_isSo 86 = .ok (.iconst 3, 1) := by decide +kernel
theorem dX10_isSo_87 : decode cX10_isSo 87 = .ok (.iadd, 1) := by decide +kernel
theorem dX10_isSo_88 : decode cX10_isSo 88 = .ok (.iaload, 1) := by decide +kernel
theorem dX10_isSo_89 : decode cX10_isSo 89 = .ok (.if_icmp .ne 7, 3) := by decide +kernel
theorem dX10_isSo_92 : decode cX10_isSo 92 = .ok (.iconst 1, 1) := by decide +kernel
theorem dX10_isSo_93 : decode cX10_isSo 93 = .ok (.goto 4, 3) := by decide +kernel
theorem dX10_isSo_96 : decode cX10_isSo 96 = .ok (.iconst 0, 1) := by decide +kernel
theorem dX10_isSo_97 : decode cX10_isSo 97 = .ok (.istore_n 1, 1) := by decide +kernel
theorem dX10_isSo_98 : decode cX10_isSo 98 = .ok (.iinc 3 1, 3) := by decide +kernel
theorem dX10_isSo_101 : decode cX10_isSo 101 = .ok (.goto (-89), 3) := by decide +kernel
theorem dX10_isSo_104 : decode cX10_isSo 104 = .ok (.aload_n 0, 1) := by decide +kernel
theorem dX10_isSo_105 : decode cX10_isSo 105 = .ok (.invokevirtual 213, 3) := by decide +kernel
theorem dX10_isSo_108 : decode cX10_isSo 108 = .ok (.iinc 2 1, 3) := by decide +kernel
theorem dX10_isSo_111 : decode cX10_isSo 111 = .ok (.goto (-107), 3) := by decide +kernel
theorem dX10_isSo_114 : decode cX10_isSo 114 = .ok (.iload_n 1, 1) := by decide +kernel
theorem dX10_isSo_115 : decode cX10_isSo 115 = .ok (.ireturn, 1) := by decide +kernel
theorem dX10_fakes_0 : decode cX10_fakes 0 = .ok (.iload_n 1, 1) := by decide +kernel
theorem dX10_fakes_1 : decode cX10_fakes 1 = .ok (.i2l, 1) := by decide +kernel
theorem dX10_fakes_2 : decode cX10_fakes 2 = .ok (.lconst 0, 1) := by decide +kernel
theorem dX10_fakes_3 : decode cX10_fakes 3 = .ok (.ldc2_w 260, 3) := by decide +kernel
theorem dX10_fakes_6 : decode cX10_fakes 6 = .ok (.invokestatic 95, 3) := by decide +kernel
theorem dX10_fakes_9 : decode cX10_fakes 9 = .ok (.ifCond .ne 5, 3) := by decide +kernel
theorem dX10_fakes_12 : decode cX10_fakes 12 = .ok (.iconst (-1), 1) := by decide +kernel
theorem dX10_fakes_13 : decode cX10_fakes 13 = .ok (.ireturn, 1) := by decide +kernel
theorem dX10_fakes_14 : decode cX10_fakes 14 = .ok (.iconst 1, 1) := by decide +kernel
theorem dX10_fakes_15 : decode cX10_fakes 15 = .ok (.aload_n 0, 1) := by decide +kernel
theorem dX10_fakes_16 : decode cX10_fakes 16 = .ok (.getfield 7, 3) := by decide +kernel
theorem dX10_fakes_19 : decode cX10_fakes 19 = .ok (.bipush 8, 2) := by decide +kernel
theorem dX10_fakes_21 : decode cX10_fakes 21 = .ok (.iaload, 1) := by decide +kernel
theorem dX10_fakes_22 : decode cX10_fakes 22 = .ok (.ishl, 1) := by decide +kernel
theorem dX10_fakes_23 : decode cX10_fakes 23 = .ok (.iconst 1, 1) := by decide +kernel
theorem dX10_fakes_24 : decode cX10_fakes 24 = .ok (.isub, 1) := by decide +kernel
theorem dX10_fakes_25 : decode cX10_fakes 25 = .ok (.istore_n 2, 1) := by decide +kernel
theorem dX10_fakes_26 : decode cX10_fakes 26 = .ok (.iconst 0, 1) := by decide +kernel
theorem dX10_fakes_27 : decode cX10_fakes 27 = .ok (.istore_n 3, 1) := by decide +kernel
theorem dX10_fakes_28 : decode cX10_fakes 28 = .ok (.bipush (-4), 2) := by decide +kernel
theorem dX10_fakes_30 : decode cX10_fakes 30 = .ok (.istore 4, 2) := by decide +kernel
theorem dX10_fakes_32 : decode cX10_fakes 32 = .ok (.iload_n 2, 1) := by decide +kernel
theorem dX10_fakes_33 : decode cX10_fakes 33 = .ok (.istore 5, 2) := by decide +kernel
theorem dX10_fakes_35 : decode cX10_fakes 35 = .ok (.iconst 0, 1) := by decide +kernel
theorem dX10_fakes_36 : decode cX10_fakes 36 = .ok (.istore 6, 2) := by decide +kernel
theorem dX10_fakes_38 : decode cX10_fakes 38 = .ok (.iconst 0, 1) := by decide +kernel
theorem dX10_fakes_39 : decode cX10_fakes 39 = .ok (.istore 7, 2) := by decide +kernel
theorem dX10_fakes_41 : decode cX10_fakes 41 = .ok (.iload 7, 2) := by decide +kernel
theorem dX10_fakes_43 : decode cX10_fakes 43 = .ok (.iload_n 2, 1) := by decide +kernel
theorem dX10_fakes_44 : decode cX10_fakes 44 = .ok (.if_icmp .gt 85, 3) := by decide +kernel
theorem dX10_fakes_47 : decode cX10_fakes 47 = .ok (.aload_n 0, 1) := by decide +kernel
theorem dX10_fakes_48 : decode cX10_fakes 48 = .ok (.invokevirtual 222, 3) := by decide +kernel
theorem dX10_fakes_51 : decode cX10_fakes 51 = .ok (.iconst 0, 1) := by decide +kernel
theorem dX10_fakes_52 : decode cX10_fakes 52 = .ok (.istore 8, 2) := by decide +kernel
theorem dX10_fakes_54 : decode cX10_fakes 54 = .ok (.iload 8, 2) := by decide +kernel
theorem dX10_fakes_56 : decode cX10_fakes 56 = .ok (.aload_n 0, 1) := by decide +kernel
theorem dX10_fakes_57 : decode cX10_fakes 57 = .ok (.getfield 7, 3) := by decide +kernel
theorem dX10_fakes_60 : decode cX10_fakes 60 = .ok (.bipush 8, 2) := by decide +kernel
theorem dX10_fakes_62 : decode cX10_fakes 62 = .ok (.iaload, 1) := by decide +kernel
theorem dX10_fakes_63 : decode cX10_fakes 63 = .ok (.if_icmp .ge 23, 3) := by decide +kernel
theorem dX10_fakes_66 : decode cX10_fakes 66 = .ok (.aload_n 0, 1) := by decide +kernel
theorem dX10_fakes_67 : decode cX10_fakes 67 = .ok (.getfield 26, 3) := by decide +kernel
theorem dX10_fakes_70 : decode cX10_fakes 70 = .ok (.iload 8, 2) := by decide +kernel
theorem dX10_fakes_72 : decode cX10_fakes 72 = .ok (.iload 7, 2) := by decide +kernel
theorem dX10_fakes_74 : decode cX10_fakes 74 = .ok (.iload 8, 2) := by decide +kernel
theorem dX10_fakes_76 : decode cX10_fakes 76 = .ok (.ishr, 1) := by decide +kernel
theorem dX10_fakes_77 : decode cX10_fakes 77 = .ok (.iconst 1, 1) := by decide +kernel
theorem dX10_fakes_78 : decode cX10_fakes 78 = .ok (.iand, 1) := by decide +kernel
theorem dX10_fakes_79 : decode cX10_fakes 79 = .ok (.iastore, 1) := by decide +kernel
theorem dX10_fakes_80 : decode cX10_fakes 80 = .ok (.iinc 8 1, 3) := by decide +kernel
theorem dX10_fakes_83 : decode cX10_fakes 83 = .ok (.goto (-29), 3) := by decide +kernel
theorem dX10_fakes_86 : decode cX10_fakes 86 = .ok (.aload_n 0, 1) := by decide +kernel
theorem dX10_fakes_87 : decode cX10_fakes 87 = .ok (.invokevirtual 262, 3) := by decide +kernel
theorem dX10_fakes_90 : decode cX10_fakes 90 = .ok (.ifCond .eq 33, 3) := by decide +kernel
theorem dX10_fakes_93 : decode cX10_fakes 93 = .ok (.iload_n 3, 1) := by decide +kernel
theorem dX10_fakes_94 : decode cX10_fakes 94 = .ok (.ifCond .ne 8, 3) := by decide +kernel
theorem dX10_fakes_97 : decode cX10_fakes 97 = .ok (.iload 7, 2) := by decide +kernel
theorem dX10_fakes_99 : decode cX10_fakes 99 = .ok (.goto 5, 3) := by decide +kernel
theorem dX10_fakes_102 : decode cX10_fakes 102 = .ok (.iload 4, 2) := by decide +kernel
theorem dX10_fakes_104 : decode cX10_fakes 104 = .ok (.istore 4, 2) := by decide +kernel
theorem dX10_fakes_106 : decode cX10_fakes 106 = .ok (.iload 5, 2) := by decide +kernel
theorem dX10_fakes_108 : decode cX10_fakes 108 = .ok (.iload 7, 2) := by decide +kernel
theorem dX10_fakes_110 : decode cX10_fakes 110 = .ok (.iand, 1) := by decide +kernel
theorem dX10_fakes_111 : decode cX10_fakes 111 = .ok (.istore 5, 2) := by decide +kernel
theorem dX10_fakes_113 : decode cX10_fakes 113 = .ok (.iload 6, 2) := by decide +kernel
theorem dX10_fakes_115 : decode cX10_fakes 115 = .ok (.iload 7, 2) := by decide +kernel
theorem dX10_fakes_117 : decode cX10_fakes 117 = .ok (.ior, 1) := by decide +kernel
theorem dX10_fakes_118 : decode cX10_fakes 118 = .ok (.istore 6, 2) := by decide +kernel
theorem dX10_fakes_120 : decode cX10_fakes 120 = .ok (.iinc 3 1, 3) := by decide +kernel
theorem dX10_fakes_123 : decode cX10_fakes 123 = .ok (.iinc 7 1, 3) := by decide +kernel
theorem dX10_fakes_126 : decode cX10_fakes 126 = .ok (.goto (-85), 3) := by decide +kernel
theorem dX10_fakes_129 : decode cX10_fakes 129 = .ok (.iload_n 1, 1) := by decide +kernel
theorem dX10_fakes_130 : decode cX10_fakes 130 = .ok (.ifCond .eq 7, 3) := by decide +kernel
theorem dX10_fakes_133 : decode cX10_fakes 133 = .ok (.iload_n 3, 1) := by decide +kernel
theorem dX10_fakes_134 : decode cX10_fakes 134 = .ok (.ifCond .ne 14, 3) := by decide +kernel
theorem dX10_fakes_137 : decode cX10_fakes 137 = .ok (.iload_n 1, 1) := by decide +kernel
theorem dX10_fakes_138 : decode cX10_fakes 138 = .ok (.ifCond .ne 7, 3) := by decide +kernel
theorem dX10_fakes_141 : decode cX10_fakes 141 = .ok (.iload_n 3, 1) := by decide +kernel
theorem dX10_fakes_142 : decode cX10_fakes 142 = .ok (.goto 5, 3) := by decide +kernel
theorem dX10_fakes_145 : decode cX10_fakes 145 = .ok (.bipush (-4), 2) := by decide +kernel
theorem dX10_fakes_147 : decode cX10_fakes 147 = .ok (.ireturn, 1) := by decide +kernel
theorem dX10_fakes_148 : decode cX10_fakes 148 = .ok (.iload_n 1, 1) := by decide +kernel
theorem dX10_fakes_149 : decode cX10_fakes 149 = .ok (.iconst 1, 1) := by decide +kernel
theorem dX10_fakes_150 : decode cX10_fakes 150 = .ok (.if_icmp .ne 8, 3) := by decide +kernel
theorem dX10_fakes_153 : decode cX10_fakes 153 = .ok (.iload 4, 2) := by decide +kernel
theorem dX10_fakes_155 : decode cX10_fakes 155 = .ok (.goto 19, 3) := by decide +kernel
theorem dX10_fakes_158 : decode cX10_fakes 158 = .ok (.iload_n 1, 1) := by decide +kernel
theorem dX10_fakes_159 : decode cX10_fakes 159 = .ok (.iconst 2, 1) := by decide +kernel
theorem dX10_fakes_160 : decode cX10_fakes 160 = .ok (.if_icmp .ne 8, 3) := by decide +kernel
theorem dX10_fakes_163 : decode cX10_fakes 163 = .ok (.iload 5, 2) := by decide +kernel
theorem dX10_fakes_165 : decode cX10_fakes 165 = .ok (.goto 9, 3) := by decide +kernel
theorem dX10_fakes_168 : decode cX10_fakes 168 = .ok (.iload_n 2, 1) := by decide +kernel
theorem dX10_fakes_169 : decode cX10_fakes 169 = .ok (.iload 6, 2) := by decide +kernel
theorem dX10_fakes_171 : decode cX10_fakes 171 = .ok (.iconst (-1), 1) := by decide +kernel
theorem dX10_fakes_172 : decode cX10_fakes 172 = .ok (.ixor, 1) := by decide +kernel
theorem dX10_fakes_173 : decode cX10_fakes 173 = .ok (.iand, 1) := by decide +kernel
theorem dX10_fakes_174 : decode cX10_fakes 174 = .ok (.ireturn, 1) := by decide +kernel
theorem dX10_wrong_0 : decode cX10_wrong 0 = .ok (.aload_n 0, 1) := by decide +kernel
theorem dX10_wrong_1 : decode cX10_wrong 1 = .ok (.invokevirtual 222, 3) := by decide +kernel
theorem dX10_wrong_4 : decode cX10_wrong 4 = .ok (.aload_n 0, 1) := by decide +kernel
theorem dX10_wrong_5 : decode cX10_wrong 5 = .ok (.invokevirtual 262, 3) := by decide +kernel
theorem dX10_wrong_8 : decode cX10_wrong 8 = .ok (.ifCond .eq 8, 3) := by decide +kernel
theorem dX10_wrong_11 : decode cX10_wrong 11 = .ok (.bipush 16, 2) := by decide +kernel
theorem dX10_wrong_13 : decode cX10_wrong 13 = .ok (.goto 4, 3) := by decide +kernel
theorem dX10_wrong_16 : decode cX10_wrong 16 = .ok (.iconst 0, 1) := by decide +kernel
theorem dX10_wrong_17 : decode cX10_wrong 17 = .ok (.istore_n 1, 1) := by decide +kernel
theorem dX10_wrong_18 : decode cX10_wrong 18 = .ok (.iconst 0, 1) := by decide +kernel
theorem dX10_wrong_19 : decode cX10_wrong 19 = .ok (.istore_n 2, 1) := by decide +kernel
theorem dX10_wrong_20 : decode cX10_wrong 20 = .ok (.iload_n 2, 1) := by decide +kernel
theorem dX10_wrong_21 : decode cX10_wrong 21 = .ok (.aload_n 0, 1) := by decide +kernel
theorem dX10_wrong_22 : decode cX10_wrong 22 = .ok (.getfield 87, 3) := by decide +kernel
theorem dX10_wrong_25 : decode cX10_wrong 25 = .ok (.if_icmp .ge 39, 3) := by decide +kernel
theorem dX10_wrong_28 : decode cX10_wrong 28 = .ok (.aload_n 0, 1) := by decide +kernel
theorem dX10_wrong_29 : decode cX10_wrong 29 = .ok (.invokevirtual 222, 3) := by decide +kernel
theorem dX10_wrong_32 : decode cX10_wrong 32 = .ok (.aload_n 0, 1) := by decide +kernel
theorem dX10_wrong_33 : decode cX10_wrong 33 = .ok (.getfield 38, 3) := by decide +kernel
theorem dX10_wrong_36 : decode cX10_wrong 36 = .ok (.iload_n 2, 1) := by decide +kernel
theorem dX10_wrong_37 : decode cX10_wrong 37 = .ok (.iconst 1, 1) := by decide +kernel
theorem dX10_wrong_38 : decode cX10_wrong 38 = .ok (.aload_n 0, 1) := by decide +kernel
theorem dX10_wrong_39 : decode cX10_wrong 39 = .ok (.getfield 38, 3) := by decide +kernel
theorem dX10_wrong_42 : decode cX10_wrong 42 = .ok (.iload_n 2, 1) := by decide +kernel
theorem dX10_wrong_43 : decode cX10_wrong 43 = .ok (.iaload, 1) := by decide +kernel
theorem dX10_wrong_44 : decode cX10_wrong 44 = .ok (.isub, 1) := by decide +kernel
theorem dX10_wrong_45 : decode cX10_wrong 45 = .ok (.iastore, 1) := by decide +kernel
theorem dX10_wrong_46 : decode cX10_wrong 46 = .ok (.iload_n 1, 1) := by decide +kernel
theorem dX10_wrong_47 : decode cX10_wrong 47 = .ok (.aload_n 0, 1) := by decide +kernel
theorem dX10_wrong_48 : decode cX10_wrong 48 = .ok (.invokevirtual 262, 3) := by decide +kernel
theorem dX10_wrong_51 : decode cX10_wrong 51 = .ok (.invokestatic 158, 3) := by decide +kernel
theorem dX10_wrong_54 : decode cX10_wrong 54 = .ok (.iload_n 2, 1) := by decide +kernel
theorem dX10_wrong_55 : decode cX10_wrong 55 = .ok (.ishl, 1) := by decide +kernel
theorem dX10_wrong_56 : decode cX10_wrong 56 = .ok (.ior, 1) := by decide +kernel
theorem dX10_wrong_57 : decode cX10_wrong 57 = .ok (.istore_n 1, 1) := by decide +kernel
theorem dX10_wrong_58 : decode cX10_wrong 58 = .ok (.iinc 2 1, 3) := by decide +kernel
theorem dX10_wrong_61 : decode cX10_wrong 61 = .ok (.goto (-41), 3) := by decide +kernel
theorem dX10_wrong_64 : decode cX10_wrong 64 = .ok (.iload_n 1, 1) := by decide +kernel
theorem dX10_wrong_65 : decode cX10_wrong 65 = .ok (.ireturn, 1) := by decide +kernel
theorem dX10_gulls_0 : decode cX10_gulls 0 = .ok (.iload_n 2, 1) := by decide +kernel
theorem dX10_gulls_1 : decode cX10_gulls 1 = .ok (.i2l, 1) := by decide +kernel
theorem dX10_gulls_2 : decode cX10_gulls 2 = .ok (.lconst 1, 1) := by decide +kernel
theorem dX10_gulls_3 : decode cX10_gulls 3 = .ok (.ldc2_w 238, 3) := by decide +kernel
theorem dX10_gulls_6 : decode cX10_gulls 6 = .ok (.invokestatic 95, 3) := by decide +kernel
theorem dX10_gulls_9 : decode cX10_gulls 9 = .ok (.ifCond .eq 13, 3) := by decide +kernel
theorem dX10_gulls_12 : decode cX10_gulls 12 = .ok (.iload_n 3, 1) := by decide +kernel
theorem dX10_gulls_13 : decode cX10_gulls 13 = .ok (.i2l, 1) := by decide +kernel
theorem dX10_gulls_14 : decode cX10_gulls 14 = .ok (.lconst 0, 1) := by decide +kernel
theorem dX10_gulls_15 : decode cX10_gulls 15 = .ok (.lconst 1, 1) := by decide +kernel
theorem dX10_gulls_16 : decode cX10_gulls 16 = .ok (.invokestatic 95, 3) := by decide +kernel
theorem dX10_gulls_19 : decode cX10_gulls 19 = .ok (.ifCond .ne 5, 3) := by decide +kernel
theorem dX10_gulls_22 : decode cX10_gulls 22 = .ok (.iconst (-1), 1) := by decide +kernel
theorem dX10_gulls_23 : decode cX10_gulls 23 = .ok (.ireturn, 1) := by decide +kernel
theorem dX10_gulls_24 : decode cX10_gulls 24 = .ok (.aload_n 0, 1) := by decide +kernel
theorem dX10_gulls_25 : decode cX10_gulls 25 = .ok (.invokevirtual 222, 3) := by decide +kernel
theorem dX10_gulls_28 : decode cX10_gulls 28 = .ok (.iload_n 1, 1) := by decide +kernel
theorem dX10_gulls_29 : decode cX10_gulls 29 = .ok (.istore 4, 2) := by decide +kernel
theorem dX10_gulls_31 : decode cX10_gulls 31 = .ok (.iconst 0, 1) := by decide +kernel
theorem dX10_gulls_32 : decode cX10_gulls 32 = .ok (.istore 5, 2) := by decide +kernel
theorem dX10_gulls_34 : decode cX10_gulls 34 = .ok (.iload 5, 2) := by decide +kernel
theorem dX10_gulls_36 : decode cX10_gulls 36 = .ok (.iload_n 2, 1) := by decide +kernel
theorem dX10_gulls_37 : decode cX10_gulls 37 = .ok (.if_icmp .ge 93, 3) := by decide +kernel
theorem dX10_gulls_40 : decode cX10_gulls 40 = .ok (.iload 4, 2) := by decide +kernel
theorem dX10_gulls_42 : decode cX10_gulls 42 = .ok (.ldc_w 265, 3) := by decide +kernel
theorem dX10_gulls_45 : decode cX10_gulls 45 = .ok (.imul, 1) := by decide +kernel
theorem dX10_gulls_46 : decode cX10_gulls 46 = .ok (.sipush 12345, 3) := by decide +kernel
theorem dX10_gulls_49 : decode cX10_gulls 49 = .ok (.iadd, 1) := by decide +kernel
theorem dX10_gulls_50 : decode cX10_gulls 50 = .ok (.istore 4, 2) := by decide +kernel
theorem dX10_gulls_52 : decode cX10_gulls 52 = .ok (.iload 4, 2) := by decide +kernel
theorem dX10_gulls_54 : decode cX10_gulls 54 = .ok (.bipush 16, 2) := by decide +kernel
theorem dX10_gulls_56 : decode cX10_gulls 56 = .ok (.ishr, 1) := by decide +kernel
theorem dX10_gulls_57 : decode cX10_gulls 57 = .ok (.sipush 32767, 3) := by decide +kernel
theorem dX10_gulls_60 : decode cX10_gulls 60 = .ok (.iand, 1) := by decide +kernel
theorem dX10_gulls_61 : decode cX10_gulls 61 = .ok (.aload_n 0, 1) := by decide +kernel
theorem dX10_gulls_62 : decode cX10_gulls 62 = .ok (.getfield 84, 3) := by decide +kernel
theorem dX10_gulls_65 : decode cX10_gulls 65 = .ok (.irem, 1) := by decide +kernel
theorem dX10_gulls_66 : decode cX10_gulls 66 = .ok (.istore 6, 2) := by decide +kernel
theorem dX10_gulls_68 : decode cX10_gulls 68 = .ok (.iconst 0, 1) := by decide +kernel
theorem dX10_gulls_69 : decode cX10_gulls 69 = .ok (.istore 7, 2) := by decide +kernel
theorem dX10_gulls_71 : decode cX10_gulls 71 = .ok (.iload 7, 2) := by decide +kernel
theorem dX10_gulls_73 : decode cX10_gulls 73 = .ok (.aload_n 0, 1) := by decide +kernel
theorem dX10_gulls_74 : decode cX10_gulls 74 = .ok (.getfield 7, 3) := by decide +kernel
theorem dX10_gulls_77 : decode cX10_gulls 77 = .ok (.bipush 8, 2) := by decide +kernel
theorem dX10_gulls_79 : decode cX10_gulls 79 = .ok (.iaload, 1) := by decide +kernel
theorem dX10_gulls_80 : decode cX10_gulls 80 = .ok (.if_icmp .ge 40, 3) := by decide +kernel
theorem dX10_gulls_83 : decode cX10_gulls 83 = .ok (.aload_n 0, 1) := by decide +kernel
theorem dX10_gulls_84 : decode cX10_gulls 84 = .ok (.getfield 29, 3) := by decide +kernel
theorem dX10_gulls_87 : decode cX10_gulls 87 = .ok (.iload 7, 2) := by decide +kernel
theorem dX10_gulls_89 : decode cX10_gulls 89 = .ok (.aload_n 0, 1) := by decide +kernel
theorem dX10_gulls_90 : decode cX10_gulls 90 = .ok (.getfield 29, 3) := by decide +kernel
theorem dX10_gulls_93 : decode cX10_gulls 93 = .ok (.iload 7, 2) := by decide +kernel
theorem dX10_gulls_95 : decode cX10_gulls 95 = .ok (.iaload, 1) := by decide +kernel
theorem dX10_gulls_96 : decode cX10_gulls 96 = .ok (.iload 6, 2) := by decide +kernel
theorem dX10_gulls_98 : decode cX10_gulls 98 = .ok (.if_icmp .ne 8, 3) := by decide +kernel
theorem dX10_gulls_101 : decode cX10_gulls 101 = .ok (.bipush 30, 2) := by decide +kernel
theorem dX10_gulls_103 : decode cX10_gulls 103 = .ok (.goto 10, 3) := by decide +kernel
theorem dX10_gulls_106 : decode cX10_gulls 106 = .ok (.aload_n 0, 1) := by decide +kernel
theorem dX10_gulls_107 : decode cX10_gulls 107 = .ok (.getfield 29, 3) := by decide +kernel
theorem dX10_gulls_110 : decode cX10_gulls 110 = .ok (.iload 7, 2) := by decide +kernel
theorem dX10_gulls_112 : decode cX10_gulls 112 = .ok (.iaload, 1) := by decide +kernel
theorem dX10_gulls_113 : decode cX10_gulls 113 = .ok (.iastore, 1) := by decide +kernel
theorem dX10_gulls_114 : decode cX10_gulls 114 = .ok (.iinc 7 1, 3) := by decide +kernel
theorem dX10_gulls_117 : decode cX10_gulls 117 = .ok (.goto (-46), 3) := by decide +kernel
theorem dX10_gulls_120 : decode cX10_gulls 120 = .ok (.aload_n 0, 1) := by decide +kernel
theorem dX10_gulls_121 : decode cX10_gulls 121 = .ok (.invokevirtual 213, 3) := by decide +kernel
theorem dX10_gulls_124 : decode cX10_gulls 124 = .ok (.iinc 5 1, 3) := by decide +kernel
theorem dX10_gulls_127 : decode cX10_gulls 127 = .ok (.goto (-93), 3) := by decide +kernel
theorem dX10_gulls_130 : decode cX10_gulls 130 = .ok (.iconst 0, 1) := by decide +kernel
theorem dX10_gulls_131 : decode cX10_gulls 131 = .ok (.istore 5, 2) := by decide +kernel
theorem dX10_gulls_133 : decode cX10_gulls 133 = .ok (.iconst 0, 1) := by decide +kernel
theorem dX10_gulls_134 : decode cX10_gulls 134 = .ok (.istore 6, 2) := by decide +kernel
theorem dX10_gulls_136 : decode cX10_gulls 136 = .ok (.iload 6, 2) := by decide +kernel
theorem dX10_gulls_138 : decode cX10_gulls 138 = .ok (.aload_n 0, 1) := by decide +kernel
theorem dX10_gulls_139 : decode cX10_gulls 139 = .ok (.getfield 7, 3) := by decide +kernel
theorem dX10_gulls_142 : decode cX10_gulls 142 = .ok (.bipush 8, 2) := by decide +kernel
theorem dX10_gulls_144 : decode cX10_gulls 144 = .ok (.iaload, 1) := by decide +kernel
theorem dX10_gulls_145 : decode cX10_gulls 145 = .ok (.if_icmp .ge 34, 3) := by decide +kernel
theorem dX10_gulls_148 : decode cX10_gulls 148 = .ok (.iload 5, 2) := by decide +kernel
theorem dX10_gulls_150 : decode cX10_gulls 150 = .ok (.aload_n 0, 1) := by decide +kernel
theorem dX10_gulls_151 : decode cX10_gulls 151 = .ok (.getfield 29, 3) := by decide +kernel
theorem dX10_gulls_154 : decode cX10_gulls 154 = .ok (.iload 6, 2) := by decide +kernel
theorem dX10_gulls_156 : decode cX10_gulls 156 = .ok (.iaload, 1) := by decide +kernel
theorem dX10_gulls_157 : decode cX10_gulls 157 = .ok (.bipush 30, 2) := by decide +kernel
theorem dX10_gulls_159 : decode cX10_gulls 159 = .ok (.if_icmp .ne 7, 3) := by decide +kernel
theorem dX10_gulls_162 : decode cX10_gulls 162 = .ok (.iconst 1, 1) := by decide +kernel
theorem dX10_gulls_163 : decode cX10_gulls 163 = .ok (.goto 4, 3) := by decide +kernel
theorem dX10_gulls_166 : decode cX10_gulls 166 = .ok (.iconst 0, 1) := by decide +kernel
theorem dX10_gulls_167 : decode cX10_gulls 167 = .ok (.invokestatic 158, 3) := by decide +kernel
theorem dX10_gulls_170 : decode cX10_gulls 170 = .ok (.iadd, 1) := by decide +kernel
theorem dX10_gulls_171 : decode cX10_gulls 171 = .ok (.istore 5, 2) := by decide +kernel
theorem dX10_gulls_173 : decode cX10_gulls 173 = .ok (.iinc 6 1, 3) := by decide +kernel
theorem dX10_gulls_176 : decode cX10_gulls 176 = .ok (.goto (-40), 3) := by decide +kernel
theorem dX10_gulls_179 : decode cX10_gulls 179 = .ok (.iload_n 3, 1) := by decide +kernel
theorem dX10_gulls_180 : decode cX10_gulls 180 = .ok (.ifCond .ne 8, 3) := by decide +kernel
theorem dX10_gulls_183 : decode cX10_gulls 183 = .ok (.iload 5, 2) := by decide +kernel
theorem dX10_gulls_185 : decode cX10_gulls 185 = .ok (.goto 7, 3) := by decide +kernel
theorem dX10_gulls_188 : decode cX10_gulls 188 = .ok (.aload_n 0, 1) := by decide +kernel
theorem dX10_gulls_189 : decode cX10_gulls 189 = .ok (.invokevirtual 210, 3) := by decide +kernel
theorem dX10_gulls_192 : decode cX10_gulls 192 = .ok (.ireturn, 1) := by decide +kernel
theorem dX10_copies_0 : decode cX10_copies 0 = .ok (.iconst 0, 1) := by decide +kernel
theorem dX10_copies_1 : decode cX10_copies 1 = .ok (.istore_n 3, 1) := by decide +kernel
theorem dX10_copies_2 : decode cX10_copies 2 = .ok (.iload_n 3, 1) := by decide +kernel
theorem dX10_copies_3 : decode cX10_copies 3 = .ok (.bipush 79, 2) := by decide +kernel
theorem dX10_copies_5 : decode cX10_copies 5 = .ok (.if_icmp .ge 25, 3) := by decide +kernel
theorem dX10_copies_8 : decode cX10_copies 8 = .ok (.aload_n 0, 1) := by decide +kernel
theorem dX10_copies_9 : decode cX10_copies 9 = .ok (.getfield 7, 3) := by decide +kernel
theorem dX10_copies_12 : decode cX10_copies 12 = .ok (.iload_n 1, 1) := by decide +kernel
theorem dX10_copies_13 : decode cX10_copies 13 = .ok (.iload_n 3, 1) := by decide +kernel
theorem dX10_copies_14 : decode cX10_copies 14 = .ok (.iadd, 1) := by decide +kernel
theorem dX10_copies_15 : decode cX10_copies 15 = .ok (.aload_n 0, 1) := by decide +kernel
theorem dX10_copies_16 : decode cX10_copies 16 = .ok (.getfield 7, 3) := by decide +kernel
theorem dX10_copies_19 : decode cX10_copies 19 = .ok (.iload_n 2, 1) := by decide +kernel
theorem dX10_copies_20 : decode cX10_copies 20 = .ok (.iload_n 3, 1) := by decide +kernel
theorem dX10_copies_21 : decode cX10_copies 21 = .ok (.iadd, 1) := by decide +kernel
theorem dX10_copies_22 : decode cX10_copies 22 = .ok (.iaload, 1) := by decide +kernel
theorem dX10_copies_23 : decode cX10_copies 23 = .ok (.iastore, 1) := by decide +kernel
theorem dX10_copies_24 : decode cX10_copies 24 = .ok (.iinc 3 1, 3) := by decide +kernel
theorem dX10_copies_27 : decode cX10_copies 27 = .ok (.goto (-25), 3) := by decide +kernel
theorem dX10_copies_30 : decode cX10_copies 30 = .ok (.return_, 1) := by decide +kernel
theorem dX10_keep_0 : decode cX10_keep 0 = .ok (.iload_n 1, 1) := by decide +kernel
theorem dX10_keep_1 : decode cX10_keep 1 = .ok (.i2l, 1) := by decide +kernel
theorem dX10_keep_2 : decode cX10_keep 2 = .ok (.lconst 0, 1) := by decide +kernel
theorem dX10_keep_3 : decode cX10_keep 3 = .ok (.lconst 1, 1) := by decide +kernel
theorem dX10_keep_4 : decode cX10_keep 4 = .ok (.invokestatic 95, 3) := by decide +kernel
theorem dX10_keep_7 : decode cX10_keep 7 = .ok (.ifCond .ne 5, 3) := by decide +kernel
theorem dX10_keep_10 : decode cX10_keep 10 = .ok (.iconst (-1), 1) := by decide +kernel
theorem dX10_keep_11 : decode cX10_keep 11 = .ok (.ireturn, 1) := by decide +kernel
theorem dX10_keep_12 : decode cX10_keep 12 = .ok (.aload_n 0, 1) := by decide +kernel
theorem dX10_keep_13 : decode cX10_keep 13 = .ok (.getfield 13, 3) := by decide +kernel
theorem dX10_keep_16 : decode cX10_keep 16 = .ok (.iload_n 1, 1) := by decide +kernel
theorem dX10_keep_17 : decode cX10_keep 17 = .ok (.baload, 1) := by decide +kernel
theorem dX10_keep_18 : decode cX10_keep 18 = .ok (.invokestatic 158, 3) := by decide +kernel
theorem dX10_keep_21 : decode cX10_keep 21 = .ok (.istore_n 2, 1) := by decide +kernel
theorem dX10_keep_22 : decode cX10_keep 22 = .ok (.aload_n 0, 1) := by decide +kernel
theorem dX10_keep_23 : decode cX10_keep 23 = .ok (.getfield 13, 3) := by decide +kernel
theorem dX10_keep_26 : decode cX10_keep 26 = .ok (.iload_n 1, 1) := by decide +kernel
theorem dX10_keep_27 : decode cX10_keep 27 = .ok (.iconst 1, 1) := by decide +kernel
theorem dX10_keep_28 : decode cX10_keep 28 = .ok (.bastore, 1) := by decide +kernel
theorem dX10_keep_29 : decode cX10_keep 29 = .ok (.aload_n 0, 1) := by decide +kernel
theorem dX10_keep_30 : decode cX10_keep 30 = .ok (.bipush 79, 2) := by decide +kernel
theorem dX10_keep_32 : decode cX10_keep 32 = .ok (.iload_n 1, 1) := by decide +kernel
theorem dX10_keep_33 : decode cX10_keep 33 = .ok (.iconst 1, 1) := by decide +kernel
theorem dX10_keep_34 : decode cX10_keep 34 = .ok (.iadd, 1) := by decide +kernel
theorem dX10_keep_35 : decode cX10_keep 35 = .ok (.imul, 1) := by decide +kernel
theorem dX10_keep_36 : decode cX10_keep 36 = .ok (.iconst 0, 1) := by decide +kernel
theorem dX10_keep_37 : decode cX10_keep 37 = .ok (.invokevirtual 266, 3) := by decide +kernel
theorem dX10_keep_40 : decode cX10_keep 40 = .ok (.iload_n 2, 1) := by decide +kernel
theorem dX10_keep_41 : decode cX10_keep 41 = .ok (.ireturn, 1) := by decide +kernel
theorem dX10_back_0 : decode cX10_back 0 = .ok (.iload_n 1, 1) := by decide +kernel
theorem dX10_back_1 : decode cX10_back 1 = .ok (.i2l, 1) := by decide +kernel
theorem dX10_back_2 : decode cX10_back 2 = .ok (.lconst 0, 1) := by decide +kernel
theorem dX10_back_3 : decode cX10_back 3 = .ok (.lconst 1, 1) := by decide +kernel
theorem dX10_back_4 : decode cX10_back 4 = .ok (.invokestatic 95, 3) := by decide +kernel
theorem dX10_back_7 : decode cX10_back 7 = .ok (.ifCond .ne 5, 3) := by decide +kernel
theorem dX10_back_10 : decode cX10_back 10 = .ok (.iconst (-1), 1) := by decide +kernel
theorem dX10_back_11 : decode cX10_back 11 = .ok (.ireturn, 1) := by decide +kernel
theorem dX10_back_12 : decode cX10_back 12 = .ok (.aload_n 0, 1) := by decide +kernel
theorem dX10_back_13 : decode cX10_back 13 = .ok (.getfield 13, 3) := by decide +kernel
theorem dX10_back_16 : decode cX10_back 16 = .ok (.iload_n 1, 1) := by decide +kernel
theorem dX10_back_17 : decode cX10_back 17 = .ok (.baload, 1) := by decide +kernel
theorem dX10_back_18 : decode cX10_back 18 = .ok (.ifCond .ne 6, 3) := by decide +kernel
theorem dX10_back_21 : decode cX10_back 21 = .ok (.bipush (-2), 2) := by decide +kernel
theorem dX10_back_23 : decode cX10_back 23 = .ok (.ireturn, 1) := by decide +kernel
theorem dX10_back_24 : decode cX10_back 24 = .ok (.aload_n 0, 1) := by decide +kernel
theorem dX10_back_25 : decode cX10_back 25 = .ok (.iconst 0, 1) := by decide +kernel
theorem dX10_back_26 : decode cX10_back 26 = .ok (.bipush 79, 2) := by decide +kernel
theorem dX10_back_28 : decode cX10_back 28 = .ok (.iload_n 1, 1) := by decide +kernel
theorem dX10_back_29 : decode cX10_back 29 = .ok (.iconst 1, 1) := by decide +kernel
theorem dX10_back_30 : decode cX10_back 30 = .ok (.iadd, 1) := by decide +kernel
theorem dX10_back_31 : decode cX10_back 31 = .ok (.imul, 1) := by decide +kernel
theorem dX10_back_32 : decode cX10_back 32 = .ok (.invokevirtual 266, 3) := by decide +kernel
theorem dX10_back_35 : decode cX10_back 35 = .ok (.aload_n 0, 1) := by decide +kernel
theorem dX10_back_36 : decode cX10_back 36 = .ok (.getfield 7, 3) := by decide +kernel
theorem dX10_back_39 : decode cX10_back 39 = .ok (.bipush 45, 2) := by decide +kernel
theorem dX10_back_41 : decode cX10_back 41 = .ok (.iaload, 1) := by decide +kernel
theorem dX10_back_42 : decode cX10_back 42 = .ok (.ireturn, 1) := by decide +kernel
theorem dX10_isSheet_0 : decode cX10_isSheet 0 = .ok (.iload_n 0, 1) := by decide +kernel
theorem dX10_isSheet_1 : decode cX10_isSheet 1 = .ok (.i2l, 1) := by decide +kernel
theorem dX10_isSheet_2 : decode cX10_isSheet 2 = .ok (.lconst 0, 1) := by decide +kernel
theorem dX10_isSheet_3 : decode cX10_isSheet 3 = .ok (.ldc2_w 260, 3) := by decide +kernel
theorem dX10_isSheet_6 : decode cX10_isSheet 6 = .ok (.invokestatic 95, 3) := by decide +kernel
theorem dX10_isSheet_9 : decode cX10_isSheet 9 = .ok (.ifCond .eq 19, 3) := by decide +kernel
theorem dX10_isSheet_12 : decode cX10_isSheet 12 = .ok (.iload_n 1, 1) := by decide +kernel
theorem dX10_isSheet_13 : decode cX10_isSheet 13 = .ok (.i2l, 1) := by decide +kernel
theorem dX10_isSheet_14 : decode cX10_isSheet 14 = .ok (.lconst 0, 1) := by decide +kernel
theorem dX10_isSheet_15 : decode cX10_isSheet 15 = .ok (.ldc2_w 270, 3) := by decide +kernel
theorem dX10_isSheet_18 : decode cX10_isSheet 18 = .ok (.invokestatic 95, 3) := by decide +kernel
theorem dX10_isSheet_21 : decode cX10_isSheet 21 = .ok (.ifCond .eq 7, 3) := by decide +kernel
theorem dX10_isSheet_24 : decode cX10_isSheet 24 = .ok (.iconst 1, 1) := by decide +kernel
theorem dX10_isSheet_25 : decode cX10_isSheet 25 = .ok (.goto 4, 3) := by decide +kernel
theorem dX10_isSheet_28 : decode cX10_isSheet 28 = .ok (.iconst 0, 1) := by decide +kernel
theorem dX10_isSheet_29 : decode cX10_isSheet 29 = .ok (.ireturn, 1) := by decide +kernel
theorem dX10_sheet_0 : decode cX10_sheet 0 = .ok (.iload_n 1, 1) := by decide +kernel
theorem dX10_sheet_1 : decode cX10_sheet 1 = .ok (.iload_n 2, 1) := by decide +kernel
theorem dX10_sheet_2 : decode cX10_sheet 2 = .ok (.invokestatic 272, 3) := by decide +kernel
theorem dX10_sheet_5 : decode cX10_sheet 5 = .ok (.ifCond .eq 9, 3) := by decide +kernel
theorem dX10_sheet_8 : decode cX10_sheet 8 = .ok (.iload_n 3, 1) := by decide +kernel
theorem dX10_sheet_9 : decode cX10_sheet 9 = .ok (.bipush 40, 2) := by decide +kernel
theorem dX10_sheet_11 : decode cX10_sheet 11 = .ok (.if_icmp .le 5, 3) := by decide +kernel
theorem dX10_sheet_14 : decode cX10_sheet 14 = .ok (.iconst (-1), 1) := by decide +kernel
theorem dX10_sheet_15 : decode cX10_sheet 15 = .ok (.ireturn, 1) := by decide +kernel
theorem dX10_sheet_16 : decode cX10_sheet 16 = .ok (.iload_n 3, 1) := by decide +kernel
theorem dX10_sheet_17 : decode cX10_sheet 17 = .ok (.ifCond .ge 6, 3) := by decide +kernel
theorem dX10_sheet_20 : decode cX10_sheet 20 = .ok (.bipush (-14), 2) := by decide +kernel
theorem dX10_sheet_22 : decode cX10_sheet 22 = .ok (.ireturn, 1) := by decide +kernel
theorem dX10_sheet_23 : decode cX10_sheet 23 = .ok (.aload_n 0, 1) := by decide +kernel
theorem dX10_sheet_24 : decode cX10_sheet 24 = .ok (.getfield 56, 3) := by decide +kernel
theorem dX10_sheet_27 : decode cX10_sheet 27 = .ok (.iload_n 1, 1) := by decide +kernel
theorem dX10_sheet_28 : decode cX10_sheet 28 = .ok (.iload_n 2, 1) := by decide +kernel
theorem dX10_sheet_29 : decode cX10_sheet 29 = .ok (.iastore, 1) := by decide +kernel
theorem dX10_sheet_30 : decode cX10_sheet 30 = .ok (.aload_n 0, 1) := by decide +kernel
theorem dX10_sheet_31 : decode cX10_sheet 31 = .ok (.getfield 59, 3) := by decide +kernel
theorem dX10_sheet_34 : decode cX10_sheet 34 = .ok (.iload_n 1, 1) := by decide +kernel
theorem dX10_sheet_35 : decode cX10_sheet 35 = .ok (.iload_n 3, 1) := by decide +kernel
theorem dX10_sheet_36 : decode cX10_sheet 36 = .ok (.iastore, 1) := by decide +kernel
theorem dX10_sheet_37 : decode cX10_sheet 37 = .ok (.iconst 0, 1) := by decide +kernel
theorem dX10_sheet_38 : decode cX10_sheet 38 = .ok (.istore 4, 2) := by decide +kernel
theorem dX10_sheet_40 : decode cX10_sheet 40 = .ok (.iload 4, 2) := by decide +kernel
theorem dX10_sheet_42 : decode cX10_sheet 42 = .ok (.bipush 40, 2) := by decide +kernel
theorem dX10_sheet_44 : decode cX10_sheet 44 = .ok (.if_icmp .ge 22, 3) := by decide +kernel
theorem dX10_sheet_47 : decode cX10_sheet 47 = .ok (.aload_n 0, 1) := by decide +kernel
theorem dX10_sheet_48 : decode cX10_sheet 48 = .ok (.getfield 62, 3) := by decide +kernel
theorem dX10_sheet_51 : decode cX10_sheet 51 = .ok (.bipush 40, 2) := by decide +kernel
theorem dX10_sheet_53 : decode cX10_sheet 53 = .ok (.iload_n 1, 1) := by decide +kernel
theorem dX10_sheet_54 : decode cX10_sheet 54 = .ok (.imul, 1) := by decide +kernel
theorem dX10_sheet_55 : decode cX10_sheet 55 = .ok (.iload 4, 2) := by decide +kernel
theorem dX10_sheet_57 : decode cX10_sheet 57 = .ok (.iadd, 1) := by decide +kernel
theorem dX10_sheet_58 : decode cX10_sheet 58 = .ok (.iconst 0, 1) := by decide +kernel
theorem dX10_sheet_59 : decode cX10_sheet 59 = .ok (.iastore, 1) := by decide +kernel
theorem dX10_sheet_60 : decode cX10_sheet 60 = .ok (.iinc 4 1, 3) := by decide +kernel
theorem dX10_sheet_63 : decode cX10_sheet 63 = .ok (.goto (-23), 3) := by decide +kernel
theorem dX10_sheet_66 : decode cX10_sheet 66 = .ok (.iconst 1, 1) := by decide +kernel
theorem dX10_sheet_67 : decode cX10_sheet 67 = .ok (.ireturn, 1) := by decide +kernel
theorem dX10_lay_0 : decode cX10_lay 0 = .ok (.iload_n 1, 1) := by decide +kernel
theorem dX10_lay_1 : decode cX10_lay 1 = .ok (.iconst 0, 1) := by decide +kernel
theorem dX10_lay_2 : decode cX10_lay 2 = .ok (.invokestatic 272, 3) := by decide +kernel
theorem dX10_lay_5 : decode cX10_lay 5 = .ok (.ifCond .ne 5, 3) := by decide +kernel
theorem dX10_lay_8 : decode cX10_lay 8 = .ok (.iconst (-1), 1) := by decide +kernel
theorem dX10_lay_9 : decode cX10_lay 9 = .ok (.ireturn, 1) := by decide +kernel
theorem dX10_lay_10 : decode cX10_lay 10 = .ok (.aload_n 0, 1) := by decide +kernel
theorem dX10_lay_11 : decode cX10_lay 11 = .ok (.getfield 56, 3) := by decide +kernel
theorem dX10_lay_14 : decode cX10_lay 14 = .ok (.iload_n 1, 1) := by decide +kernel
theorem dX10_lay_15 : decode cX10_lay 15 = .ok (.iaload, 1) := by decide +kernel
theorem dX10_lay_16 : decode cX10_lay 16 = .ok (.bipush (-4), 2) := by decide +kernel
theorem dX10_lay_18 : decode cX10_lay 18 = .ok (.if_icmp .ne 6, 3) := by decide +kernel
theorem dX10_lay_21 : decode cX10_lay 21 = .ok (.bipush (-11), 2) := by decide +kernel
theorem dX10_lay_23 : decode cX10_lay 23 = .ok (.ireturn, 1) := by decide +kernel
theorem dX10_lay_24 : decode cX10_lay 24 = .ok (.iload_n 2, 1) := by decide +kernel
theorem dX10_lay_25 : decode cX10_lay 25 = .ok (.i2l, 1) := by decide +kernel
theorem dX10_lay_26 : decode cX10_lay 26 = .ok (.lconst 0, 1) := by decide +kernel
theorem dX10_lay_27 : decode cX10_lay 27 = .ok (.aload_n 0, 1) := by decide +kernel
theorem dX10_lay_28 : decode cX10_lay 28 = .ok (.getfield 59, 3) := by decide +kernel
theorem dX10_lay_31 : decode cX10_lay 31 = .ok (.iload_n 1, 1) := by decide +kernel
theorem dX10_lay_32 : decode cX10_lay 32 = .ok (.iaload, 1) := by decide +kernel
theorem dX10_lay_33 : decode cX10_lay 33 = .ok (.iconst 1, 1) := by decide +kernel
theorem dX10_lay_34 : decode cX10_lay 34 = .ok (.isub, 1) := by decide +kernel
theorem dX10_lay_35 : decode cX10_lay 35 = .ok (.i2l, 1) := by decide +kernel
theorem dX10_lay_36 : decode cX10_lay 36 = .ok (.invokestatic 95, 3) := by decide +kernel
theorem dX10_lay_39 : decode cX10_lay 39 = .ok (.ifCond .ne 6, 3) := by decide +kernel
theorem dX10_lay_42 : decode cX10_lay 42 = .ok (.bipush (-12), 2) := by decide +kernel
theorem dX10_lay_44 : decode cX10_lay 44 = .ok (.ireturn, 1) := by decide +kernel
theorem dX10_lay_45 : decode cX10_lay 45 = .ok (.aload_n 0, 1) := by decide +kernel
theorem dX10_lay_46 : decode cX10_lay 46 = .ok (.getfield 62, 3) := by decide +kernel
theorem dX10_lay_49 : decode cX10_lay 49 = .ok (.bipush 40, 2) := by decide +kernel
theorem dX10_lay_51 : decode cX10_lay 51 = .ok (.iload_n 1, 1) := by decide +kernel
theorem dX10_lay_52 : decode cX10_lay 52 = .ok (.imul, 1) := by decide +kernel
theorem dX10_lay_53 : decode cX10_lay 53 = .ok (.iload_n 2, 1) := by decide +kernel
theorem dX10_lay_54 : decode cX10_lay 54 = .ok (.iadd, 1) := by decide +kernel
theorem dX10_lay_55 : decode cX10_lay 55 = .ok (.aload_n 0, 1) := by decide +kernel
theorem dX10_lay_56 : decode cX10_lay 56 = .ok (.getfield 56, 3) := by decide +kernel
theorem dX10_lay_59 : decode cX10_lay 59 = .ok (.iload_n 1, 1) := by decide +kernel
theorem dX10_lay_60 : decode cX10_lay 60 = .ok (.iaload, 1) := by decide +kernel
theorem dX10_lay_61 : decode cX10_lay 61 = .ok (.ifCond .ne 8, 3) := by decide +kernel
theorem dX10_lay_64 : decode cX10_lay 64 = .ok (.iload_n 3, 1) := by decide +kernel
theorem dX10_lay_65 : decode cX10_lay 65 = .ok (.i2b, 1) := by decide +kernel
theorem dX10_lay_66 : decode cX10_lay 66 = .ok (.goto 19, 3) := by decide +kernel
theorem dX10_lay_69 : decode cX10_lay 69 = .ok (.aload_n 0, 1) := by decide +kernel
theorem dX10_lay_70 : decode cX10_lay 70 = .ok (.getfield 56, 3) := by decide +kernel
theorem dX10_lay_73 : decode cX10_lay 73 = .ok (.iload_n 1, 1) := by decide +kernel
theorem dX10_lay_74 : decode cX10_lay 74 = .ok (.iaload, 1) := by decide +kernel
theorem dX10_lay_75 : decode cX10_lay 75 = .ok (.iconst 1, 1) := by decide +kernel
theorem dX10_lay_76 : decode cX10_lay 76 = .ok (.if_icmp .ne 8, 3) := by decide +kernel
theorem dX10_lay_79 : decode cX10_lay 79 = .ok (.iload_n 3, 1) := by decide +kernel
theorem dX10_lay_80 : decode cX10_lay 80 = .ok (.i2s, 1) := by decide +kernel
theorem dX10_lay_81 : decode cX10_lay 81 = .ok (.goto 4, 3) := by decide +kernel
theorem dX10_lay_84 : decode cX10_lay 84 = .ok (.iload_n 3, 1) := by decide +kernel
theorem dX10_lay_85 : decode cX10_lay 85 = .ok (.iastore, 1) := by decide +kernel
theorem dX10_lay_86 : decode cX10_lay 86 = .ok (.iconst 1, 1) := by decide +kernel
theorem dX10_lay_87 : decode cX10_lay 87 = .ok (.ireturn, 1) := by decide +kernel
theorem dX10_read_0 : decode cX10_read 0 = .ok (.iload_n 1, 1) := by decide +kernel
theorem dX10_read_1 : decode cX10_read 1 = .ok (.iload_n 2, 1) := by decide +kernel
theorem dX10_read_2 : decode cX10_read 2 = .ok (.invokestatic 272, 3) := by decide +kernel
theorem dX10_read_5 : decode cX10_read 5 = .ok (.ifCond .eq 16, 3) := by decide +kernel
theorem dX10_read_8 : decode cX10_read 8 = .ok (.iload 4, 2) := by decide +kernel
theorem dX10_read_10 : decode cX10_read 10 = .ok (.i2l, 1) := by decide +kernel
theorem dX10_read_11 : decode cX10_read 11 = .ok (.lconst 0, 1) := by decide +kernel
theorem dX10_read_12 : decode cX10_read 12 = .ok (.ldc2_w 245, 3) := by decide +kernel
theorem dX10_read_15 : decode cX10_read 15 = .ok (.invokestatic 95, 3) := by decide +kernel
theorem dX10_read_18 : decode cX10_read 18 = .ok (.ifCond .ne 5, 3) := by decide +kernel
theorem dX10_read_21 : decode cX10_read 21 = .ok (.iconst (-1), 1) := by decide +kernel
theorem dX10_read_22 : decode cX10_read 22 = .ok (.ireturn, 1) := by decide +kernel
theorem dX10_read_23 : decode cX10_read 23 = .ok (.aload_n 0, 1) := by decide +kernel
theorem dX10_read_24 : decode cX10_read 24 = .ok (.getfield 7, 3) := by decide +kernel
theorem dX10_read_27 : decode cX10_read 27 = .ok (.bipush 8, 2) := by decide +kernel
theorem dX10_read_29 : decode cX10_read 29 = .ok (.iaload, 1) := by decide +kernel
theorem dX10_read_30 : decode cX10_read 30 = .ok (.istore 5, 2) := by decide +kernel
theorem dX10_read_32 : decode cX10_read 32 = .ok (.iconst 0, 1) := by decide +kernel
theorem dX10_read_33 : decode cX10_read 33 = .ok (.istore 6, 2) := by decide +kernel
theorem dX10_read_35 : decode cX10_read 35 = .ok (.iconst 0, 1) := by decide +kernel
theorem dX10_read_36 : decode cX10_read 36 = .ok (.istore 7, 2) := by decide +kernel
theorem dX10_read_38 : decode cX10_read 38 = .ok (.iconst 0, 1) := by decide +kernel
theorem dX10_read_39 : decode cX10_read 39 = .ok (.istore 8, 2) := by decide +kernel
theorem dX10_read_41 : decode cX10_read 41 = .ok (.iload 8, 2) := by decide +kernel
theorem dX10_read_43 : decode cX10_read 43 = .ok (.iload 4, 2) := by decide +kernel
theorem dX10_read_45 : decode cX10_read 45 = .ok (.if_icmp .ge 163, 3) := by decide +kernel
theorem dX10_read_48 : decode cX10_read 48 = .ok (.iload 6, 2) := by decide +kernel
theorem dX10_read_50 : decode cX10_read 50 = .ok (.ifCond .ne 158, 3) := by decide +kernel
theorem dX10_read_53 : decode cX10_read 53 = .ok (.iconst 0, 1) := by decide +kernel
theorem dX10_read_54 : decode cX10_read 54 = .ok (.istore 9, 2) := by decide +kernel
theorem dX10_read_56 : decode cX10_read 56 = .ok (.iload 9, 2) := by decide +kernel
theorem dX10_read_58 : decode cX10_read 58 = .ok (.iconst 2, 1) := by decide +kernel
theorem dX10_read_59 : decode cX10_read 59 = .ok (.if_icmp .ge 84, 3) := by decide +kernel
theorem dX10_read_62 : decode cX10_read 62 = .ok (.iload 6, 2) := by decide +kernel
theorem dX10_read_64 : decode cX10_read 64 = .ok (.ifCond .ne 79, 3) := by decide +kernel
theorem dX10_read_67 : decode cX10_read 67 = .ok (.iload_n 3, 1) := by decide +kernel
theorem dX10_read_68 : decode cX10_read 68 = .ok (.i2l, 1) := by decide +kernel
theorem dX10_read_69 : decode cX10_read 69 = .ok (.iconst 2, 1) := by decide +kernel
theorem dX10_read_70 : decode cX10_read 70 = .ok (.iload 8, 2) := by decide +kernel
theorem dX10_read_72 : decode cX10_read 72 = .ok (.imul, 1) := by decide +kernel
theorem dX10_read_73 : decode cX10_read 73 = .ok (.i2l, 1) := by decide +kernel
theorem dX10_read_74 : decode cX10_read 74 = .ok (.ladd, 1) := by decide +kernel
theorem dX10_read_75 : decode cX10_read 75 = .ok (.iload 9, 2) := by decide +kernel
theorem dX10_read_77 : decode cX10_read 77 = .ok (.i2l, 1) := by decide +kernel
theorem dX10_read_78 : decode cX10_read 78 = .ok (.ladd, 1) := by decide +kernel
theorem dX10_read_79 : decode cX10_read 79 = .ok (.lstore 10, 2) := by decide +kernel
theorem dX10_read_81 : decode cX10_read 81 = .ok (.aload_n 0, 1) := by decide +kernel
theorem dX10_read_82 : decode cX10_read 82 = .ok (.getfield 56, 3) := by decide +kernel
theorem dX10_read_85 : decode cX10_read 85 = .ok (.iload_n 1, 1) := by decide +kernel
theorem dX10_read_86 : decode cX10_read 86 = .ok (.iaload, 1) := by decide +kernel
theorem dX10_read_87 : decode cX10_read 87 = .ok (.bipush (-4), 2) := by decide +kernel
theorem dX10_read_89 : decode cX10_read 89 = .ok (.if_icmp .ne 7, 3) := by decide +kernel
theorem dX10_read_92 : decode cX10_read 92 = .ok (.iconst 1, 1) := by decide +kernel
theorem dX10_read_93 : decode cX10_read 93 = .ok (.goto 42, 3) := by decide +kernel
theorem dX10_read_96 : decode cX10_read 96 = .ok (.aload_n 0, 1) := by decide +kernel
theorem dX10_read_97 : decode cX10_read 97 = .ok (.getfield 56, 3) := by decide +kernel
theorem dX10_read_100 : decode cX10_read 100 = .ok (.iload_n 1, 1) := by decide +kernel
theorem dX10_read_101 : decode cX10_read 101 = .ok (.iaload, 1) := by decide +kernel
theorem dX10_read_102 : decode cX10_read 102 = .ok (.iload_n 2, 1) := by decide +kernel
theorem dX10_read_103 : decode cX10_read 103 = .ok (.if_icmp .eq 7, 3) := by decide +kernel
theorem dX10_read_106 : decode cX10_read 106 = .ok (.iconst 3, 1) := by decide +kernel
theorem dX10_read_107 : decode cX10_read 107 = .ok (.goto 28, 3) := by decide +kernel
theorem dX10_read_110 : decode cX10_read 110 = .ok (.lload 10, 2) := by decide +kernel
theorem dX10_read_112 : decode cX10_read 112 = .ok (.lconst 0, 1) := by decide +kernel
theorem dX10_read_113 : decode cX10_read 113 = .ok (.lcmp, 1) := by decide +kernel
theorem dX10_read_114 : decode cX10_read 114 = .ok (.ifCond .lt 16, 3) := by decide +kernel
theorem dX10_read_117 : decode cX10_read 117 = .ok (.lload 10, 2) := by decide +kernel
theorem dX10_read_119 : decode cX10_read 119 = .ok (.aload_n 0, 1) := by decide +kernel
theorem dX10_read_120 : decode cX10_read 120 = .ok (.getfield 59, 3) := by decide +kernel
theorem dX10_read_123 : decode cX10_read 123 = .ok (.iload_n 1, 1) := by decide +kernel
theorem dX10_read_124 : decode cX10_read 124 = .ok (.iaload, 1) := by decide +kernel
theorem dX10_read_125 : decode cX10_read 125 = .ok (.i2l, 1) := by decide +kernel
theorem dX10_read_126 : decode cX10_read 126 = .ok (.lcmp, 1) := by decide +kernel
theorem dX10_read_127 : decode cX10_read 127 = .ok (.ifCond .lt 7, 3) := by decide +kernel
theorem dX10_read_130 : decode cX10_read 130 = .ok (.iconst 2, 1) := by decide +kernel
theorem dX10_read_131 : decode cX10_read 131 = .ok (.goto 4, 3) := by decide +kernel
theorem dX10_read_134 : decode cX10_read 134 = .ok (.iconst 0, 1) := by decide +kernel
theorem dX10_read_135 : decode cX10_read 135 = .ok (.istore 6, 2) := by decide +kernel
theorem dX10_read_137 : decode cX10_read 137 = .ok (.iinc 9 1, 3) := by decide +kernel
theorem dX10_read_140 : decode cX10_read 140 = .ok (.goto (-84), 3) := by decide +kernel
theorem dX10_read_143 : decode cX10_read 143 = .ok (.iload 6, 2) := by decide +kernel
theorem dX10_read_145 : decode cX10_read 145 = .ok (.ifCond .ne 57, 3) := by decide +kernel
theorem dX10_read_148 : decode cX10_read 148 = .ok (.bipush 40, 2) := by decide +kernel
theorem dX10_read_150 : decode cX10_read 150 = .ok (.iload_n 1, 1) := by decide +kernel
theorem dX10_read_151 : decode cX10_read 151 = .ok (.imul, 1) := by decide +kernel
theorem dX10_read_152 : decode cX10_read 152 = .ok (.iload_n 3, 1) := by decide +kernel
theorem dX10_read_153 : decode cX10_read 153 = .ok (.iadd, 1) := by decide +kernel
theorem dX10_read_154 : decode cX10_read 154 = .ok (.iconst 2, 1) := by decide +kernel
theorem dX10_read_155 : decode cX10_read 155 = .ok (.iload 8, 2) := by decide +kernel
theorem dX10_read_157 : decode cX10_read 157 = .ok (.imul, 1) := by decide +kernel
theorem dX10_read_158 : decode cX10_read 158 = .ok (.iadd, 1) := by decide +kernel
theorem dX10_read_159 : decode cX10_read 159 = .ok (.istore 9, 2) := by decide +kernel
theorem dX10_read_161 : decode cX10_read 161 = .ok (.aload_n 0, 1) := by decide +kernel
theorem dX10_read_162 : decode cX10_read 162 = .ok (.aload_n 0, 1) := by decide +kernel
theorem dX10_read_163 : decode cX10_read 163 = .ok (.getfield 62, 3) := by decide +kernel
theorem dX10_read_166 : decode cX10_read 166 = .ok (.iload 9, 2) := by decide +kernel
theorem dX10_read_168 : decode cX10_read 168 = .ok (.iaload, 1) := by decide +kernel
theorem dX10_read_169 : decode cX10_read 169 = .ok (.aload_n 0, 1) := by decide +kernel
theorem dX10_read_170 : decode cX10_read 170 = .ok (.getfield 62, 3) := by decide +kernel
theorem dX10_read_173 : decode cX10_read 173 = .ok (.iload 9, 2) := by decide +kernel
theorem dX10_read_175 : decode cX10_read 175 = .ok (.iconst 1, 1) := by decide +kernel
theorem dX10_read_176 : decode cX10_read 176 = .ok (.iadd, 1) := by decide +kernel
theorem dX10_read_177 : decode cX10_read 177 = .ok (.iaload, 1) := by decide +kernel
theorem dX10_read_178 : decode cX10_read 178 = .ok (.invokevirtual 275, 3) := by decide +kernel
theorem dX10_read_181 : decode cX10_read 181 = .ok (.ifCond .ge 18, 3) := by decide +kernel
theorem dX10_read_184 : decode cX10_read 184 = .ok (.aload_n 0, 1) := by decide +kernel
theorem dX10_read_185 : decode cX10_read 185 = .ok (.getfield 7, 3) := by decide +kernel
theorem dX10_read_188 : decode cX10_read 188 = .ok (.bipush 8, 2) := by decide +kernel
theorem dX10_read_190 : decode cX10_read 190 = .ok (.iload 5, 2) := by decide +kernel
theorem dX10_read_192 : decode cX10_read 192 = .ok (.iastore, 1) := by decide +kernel
theorem dX10_read_193 : decode cX10_read 193 = .ok (.bipush (-20), 2) := by decide +kernel
theorem dX10_read_195 : decode cX10_read 195 = .ok (.iload 8, 2) := by decide +kernel
theorem dX10_read_197 : decode cX10_read 197 = .ok (.isub, 1) := by decide +kernel
theorem dX10_read_198 : decode cX10_read 198 = .ok (.ireturn, 1) := by decide +kernel
theorem dX10_read_199 : decode cX10_read 199 = .ok (.iinc 7 1, 3) := by decide +kernel
theorem dX10_read_202 : decode cX10_read 202 = .ok (.iinc 8 1, 3) := by decide +kernel
theorem dX10_read_205 : decode cX10_read 205 = .ok (.goto (-164), 3) := by decide +kernel
theorem dX10_read_208 : decode cX10_read 208 = .ok (.aload_n 0, 1) := by decide +kernel
theorem dX10_read_209 : decode cX10_read 209 = .ok (.iload 6, 2) := by decide +kernel
theorem dX10_read_211 : decode cX10_read 211 = .ok (.putfield 278, 3) := by decide +kernel
theorem dX10_read_214 : decode cX10_read 214 = .ok (.iload 7, 2) := by decide +kernel
theorem dX10_read_216 : decode cX10_read 216 = .ok (.ireturn, 1) := by decide +kernel
theorem dX10_torn_0 : decode cX10_torn 0 = .ok (.aload_n 0, 1) := by decide +kernel
theorem dX10_torn_1 : decode cX10_torn 1 = .ok (.getfield 278, 3) := by decide +kernel
theorem dX10_torn_4 : decode cX10_torn 4 = .ok (.ireturn, 1) := by decide +kernel
theorem dX10_count_0 : decode cX10_count 0 = .ok (.iconst 0, 1) := by decide +kernel
theorem dX10_count_1 : decode cX10_count 1 = .ok (.istore_n 2, 1) := by decide +kernel
theorem dX10_count_2 : decode cX10_count 2 = .ok (.iconst 0, 1) := by decide +kernel
theorem dX10_count_3 : decode cX10_count 3 = .ok (.istore_n 3, 1) := by decide +kernel
theorem dX10_count_4 : decode cX10_count 4 = .ok (.iconst 0, 1) := by decide +kernel
theorem dX10_count_5 : decode cX10_count 5 = .ok (.istore 4, 2) := by decide +kernel
theorem dX10_count_7 : decode cX10_count 7 = .ok (.iconst 0, 1) := by decide +kernel
theorem dX10_count_8 : decode cX10_count 8 = .ok (.istore 5, 2) := by decide +kernel
theorem dX10_count_10 : decode cX10_count 10 = .ok (.iload 5, 2) := by decide +kernel
theorem dX10_count_12 : decode cX10_count 12 = .ok (.aload_n 0, 1) := by decide +kernel
theorem dX10_count_13 : decode cX10_count 13 = .ok (.getfield 7, 3) := by decide +kernel
theorem dX10_count_16 : decode cX10_count 16 = .ok (.bipush 8, 2) := by decide +kernel
theorem dX10_count_18 : decode cX10_count 18 = .ok (.iaload, 1) := by decide +kernel
theorem dX10_count_19 : decode cX10_count 19 = .ok (.if_icmp .ge 89, 3) := by decide +kernel
theorem dX10_count_22 : decode cX10_count 22 = .ok (.iload_n 2, 1) := by decide +kernel
theorem dX10_count_23 : decode cX10_count 23 = .ok (.aload_n 0, 1) := by decide +kernel
theorem dX10_count_24 : decode cX10_count 24 = .ok (.getfield 7, 3) := by decide +kernel
theorem dX10_count_27 : decode cX10_count 27 = .ok (.bipush 21, 2) := by decide +kernel
theorem dX10_count_29 : decode cX10_count 29 = .ok (.iload 5, 2) := by decide +kernel
theorem dX10_count_31 : decode cX10_count 31 = .ok (.iadd, 1) := by decide +kernel
theorem dX10_count_32 : decode cX10_count 32 = .ok (.iaload, 1) := by decide +kernel
theorem dX10_count_33 : decode cX10_count 33 = .ok (.bipush 8, 2) := by decide +kernel
theorem dX10_count_35 : decode cX10_count 35 = .ok (.if_icmp .ge 7, 3) := by decide +kernel
theorem dX10_count_38 : decode cX10_count 38 = .ok (.iconst 1, 1) := by decide +kernel
theorem dX10_count_39 : decode cX10_count 39 = .ok (.goto 4, 3) := by decide +kernel
theorem dX10_count_42 : decode cX10_count 42 = .ok (.iconst 0, 1) := by decide +kernel
theorem dX10_count_43 : decode cX10_count 43 = .ok (.invokestatic 158, 3) := by decide +kernel
theorem dX10_count_46 : decode cX10_count 46 = .ok (.iadd, 1) := by decide +kernel
theorem dX10_count_47 : decode cX10_count 47 = .ok (.istore_n 2, 1) := by decide +kernel
theorem dX10_count_48 : decode cX10_count 48 = .ok (.iload_n 3, 1) := by decide +kernel
theorem dX10_count_49 : decode cX10_count 49 = .ok (.aload_n 0, 1) := by decide +kernel
theorem dX10_count_50 : decode cX10_count 50 = .ok (.getfield 7, 3) := by decide +kernel
theorem dX10_count_53 : decode cX10_count 53 = .ok (.bipush 21, 2) := by decide +kernel
theorem dX10_count_55 : decode cX10_count 55 = .ok (.iload 5, 2) := by decide +kernel
theorem dX10_count_57 : decode cX10_count 57 = .ok (.iadd, 1) := by decide +kernel
theorem dX10_count_58 : decode cX10_count 58 = .ok (.iaload, 1) := by decide +kernel
theorem dX10_count_59 : decode cX10_count 59 = .ok (.i2l, 1) := by decide +kernel
theorem dX10_count_60 : decode cX10_count 60 = .ok (.ldc2_w 243, 3) := by decide +kernel
theorem dX10_count_63 : decode cX10_count 63 = .ok (.ldc2_w 245, 3) := by decide +kernel
theorem dX10_count_66 : decode cX10_count 66 = .ok (.invokestatic 95, 3) := by decide +kernel
theorem dX10_count_69 : decode cX10_count 69 = .ok (.invokestatic 158, 3) := by decide +kernel
theorem dX10_count_72 : decode cX10_count 72 = .ok (.iadd, 1) := by decide +kernel
theorem dX10_count_73 : decode cX10_count 73 = .ok (.istore_n 3, 1) := by decide +kernel
theorem dX10_count_74 : decode cX10_count 74 = .ok (.iload 4, 2) := by decide +kernel
theorem dX10_count_76 : decode cX10_count 76 = .ok (.aload_n 0, 1) := by decide +kernel
theorem dX10_count_77 : decode cX10_count 77 = .ok (.getfield 7, 3) := by decide +kernel
theorem dX10_count_80 : decode cX10_count 80 = .ok (.bipush 21, 2) := by decide +kernel
theorem dX10_count_82 : decode cX10_count 82 = .ok (.iload 5, 2) := by decide +kernel
theorem dX10_count_84 : decode cX10_count 84 = .ok (.iadd, 1) := by decide +kernel
theorem dX10_count_85 : decode cX10_count 85 = .ok (.iaload, 1) := by decide +kernel
theorem dX10_count_86 : decode cX10_count 86 = .ok (.i2l, 1) := by decide +kernel
theorem dX10_count_87 : decode cX10_count 87 = .ok (.ldc2_w 253, 3) := by decide +kernel
theorem dX10_count_90 : decode cX10_count 90 = .ok (.ldc2_w 255, 3) := by decide +kernel
theorem dX10_count_93 : decode cX10_count 93 = .ok (.invokestatic 95, 3) := by decide +kernel
theorem dX10_count_96 : decode cX10_count 96 = .ok (.invokestatic 158, 3) := by decide +kernel
theorem dX10_count_99 : decode cX10_count 99 = .ok (.iadd, 1) := by decide +kernel
theorem dX10_count_100 : decode cX10_count 100 = .ok (.istore 4, 2) := by decide +kernel
theorem dX10_count_102 : decode cX10_count 102 = .ok (.iinc 5 1, 3) := by decide +kernel
theorem dX10_count_105 : decode cX10_count 105 = .ok (.goto (-95), 3) := by decide +kernel
theorem dX10_count_108 : decode cX10_count 108 = .ok (.iload_n 1, 1) := by decide +kernel
theorem dX10_count_109 : decode cX10_count 109 = .ok (.tableswitch 130 0 8 #[51, 53, 55, 58, 65, 74, 82, 102, 107], 51) := by decide +kernel
theorem dX10_count_160 : decode cX10_count 160 = .ok (.iload_n 2, 1) := by decide +kernel
theorem dX10_count_161 : decode cX10_count 161 = .ok (.ireturn, 1) := by decide +kernel
theorem dX10_count_162 : decode cX10_count 162 = .ok (.iload_n 3, 1) := by decide +kernel
theorem dX10_count_163 : decode cX10_count 163 = .ok (.ireturn, 1) := by decide +kernel
theorem dX10_count_164 : decode cX10_count 164 = .ok (.iload 4, 2) := by decide +kernel
theorem dX10_count_166 : decode cX10_count 166 = .ok (.ireturn, 1) := by decide +kernel
theorem dX10_count_167 : decode cX10_count 167 = .ok (.aload_n 0, 1) := by decide +kernel
theorem dX10_count_168 : decode cX10_count 168 = .ok (.bipush 30, 2) := by decide +kernel
theorem dX10_count_170 : decode cX10_count 170 = .ok (.invokevirtual 230, 3) := by decide +kernel
theorem dX10_count_173 : decode cX10_count 173 = .ok (.ireturn, 1) := by decide +kernel
theorem dX10_count_174 : decode cX10_count 174 = .ok (.aload_n 0, 1) := by decide +kernel
theorem dX10_count_175 : decode cX10_count 175 = .ok (.invokevirtual 222, 3) := by decide +kernel
theorem dX10_count_178 : decode cX10_count 178 = .ok (.aload_n 0, 1) := by decide +kernel
theorem dX10_count_179 : decode cX10_count 179 = .ok (.invokevirtual 210, 3) := by decide +kernel
theorem dX10_count_182 : decode cX10_count 182 = .ok (.ireturn, 1) := by decide +kernel
theorem dX10_count_183 : decode cX10_count 183 = .ok (.aload_n 0, 1) := by decide +kernel
theorem dX10_count_184 : decode cX10_count 184 = .ok (.getfield 7, 3) := by decide +kernel
theorem dX10_count_187 : decode cX10_count 187 = .ok (.bipush 46, 2) := by decide +kernel
theorem dX10_count_189 : decode cX10_count 189 = .ok (.iaload, 1) := by decide +kernel
theorem dX10_count_190 : decode cX10_count 190 = .ok (.ireturn, 1) := by decide +kernel
theorem dX10_count_191 : decode cX10_count 191 = .ok (.aload_n 0, 1) := by decide +kernel
theorem dX10_count_192 : decode cX10_count 192 = .ok (.getfield 13, 3) := by decide +kernel
theorem dX10_count_195 : decode cX10_count 195 = .ok (.iconst 0, 1) := by decide +kernel
theorem dX10_count_196 : decode cX10_count 196 = .ok (.baload, 1) := by decide +kernel
theorem dX10_count_197 : decode cX10_count 197 = .ok (.invokestatic 158, 3) := by decide +kernel
theorem dX10_count_200 : decode cX10_count 200 = .ok (.aload_n 0, 1) := by decide +kernel
theorem dX10_count_201 : decode cX10_count 201 = .ok (.getfield 13, 3) := by decide +kernel
theorem dX10_count_204 : decode cX10_count 204 = .ok (.iconst 1, 1) := by decide +kernel
theorem dX10_count_205 : decode cX10_count 205 = .ok (.baload, 1) := by decide +kernel
theorem dX10_count_206 : decode cX10_count 206 = .ok (.invokestatic 158, 3) := by decide +kernel
theorem dX10_count_209 : decode cX10_count 209 = .ok (.iadd, 1) := by decide +kernel
theorem dX10_count_210 : decode cX10_count 210 = .ok (.ireturn, 1) := by decide +kernel
theorem dX10_count_211 : decode cX10_count 211 = .ok (.aload_n 0, 1) := by decide +kernel
theorem dX10_count_212 : decode cX10_count 212 = .ok (.getfield 90, 3) := by decide +kernel
theorem dX10_count_215 : decode cX10_count 215 = .ok (.ireturn, 1) := by decide +kernel
theorem dX10_count_216 : decode cX10_count 216 = .ok (.aload_n 0, 1) := by decide +kernel
theorem dX10_count_217 : decode cX10_count 217 = .ok (.getfield 56, 3) := by decide +kernel
theorem dX10_count_220 : decode cX10_count 220 = .ok (.iconst 0, 1) := by decide +kernel
theorem dX10_count_221 : decode cX10_count 221 = .ok (.iaload, 1) := by decide +kernel
theorem dX10_count_222 : decode cX10_count 222 = .ok (.bipush (-4), 2) := by decide +kernel
theorem dX10_count_224 : decode cX10_count 224 = .ok (.if_icmp .ne 8, 3) := by decide +kernel
theorem dX10_count_227 : decode cX10_count 227 = .ok (.bipush (-4), 2) := by decide +kernel
theorem dX10_count_229 : decode cX10_count 229 = .ok (.goto 9, 3) := by decide +kernel
theorem dX10_count_232 : decode cX10_count 232 = .ok (.aload_n 0, 1) := by decide +kernel
theorem dX10_count_233 : decode cX10_count 233 = .ok (.getfield 59, 3) := by decide +kernel
theorem dX10_count_236 : decode cX10_count 236 = .ok (.iconst 0, 1) := by decide +kernel
theorem dX10_count_237 : decode cX10_count 237 = .ok (.iaload, 1) := by decide +kernel
theorem dX10_count_238 : decode cX10_count 238 = .ok (.ireturn, 1) := by decide +kernel
theorem dX10_count_239 : decode cX10_count 239 = .ok (.iconst (-1), 1) := by decide +kernel
theorem dX10_count_240 : decode cX10_count 240 = .ok (.ireturn, 1) := by decide +kernel
theorem dJ6_bitCount_0f7a4_0 : decode cJ6_bitCount_0f7a4 0 = .ok (.iload_n 0, 1) := by decide +kernel
theorem dJ6_bitCount_0f7a4_1 : decode cJ6_bitCount_0f7a4 1 = .ok (.iload_n 0, 1) := by decide +kernel
theorem dJ6_bitCount_0f7a4_2 : decode cJ6_bitCount_0f7a4 2 = .ok (.iconst 1, 1) := by decide +kernel
theorem dJ6_bitCount_0f7a4_3 : decode cJ6_bitCount_0f7a4 3 = .ok (.iushr, 1) := by decide +kernel
theorem dJ6_bitCount_0f7a4_4 : decode cJ6_bitCount_0f7a4 4 = .ok (.ldc_w 265, 3) := by decide +kernel
theorem dJ6_bitCount_0f7a4_7 : decode cJ6_bitCount_0f7a4 7 = .ok (.iand, 1) := by decide +kernel
theorem dJ6_bitCount_0f7a4_8 : decode cJ6_bitCount_0f7a4 8 = .ok (.isub, 1) := by decide +kernel
theorem dJ6_bitCount_0f7a4_9 : decode cJ6_bitCount_0f7a4 9 = .ok (.istore_n 0, 1) := by decide +kernel
theorem dJ6_bitCount_0f7a4_10 : decode cJ6_bitCount_0f7a4 10 = .ok (.iload_n 0, 1) := by decide +kernel
theorem dJ6_bitCount_0f7a4_11 : decode cJ6_bitCount_0f7a4 11 = .ok (.ldc_w 266, 3) := by decide +kernel
theorem dJ6_bitCount_0f7a4_14 : decode cJ6_bitCount_0f7a4 14 = .ok (.iand, 1) := by decide +kernel
theorem dJ6_bitCount_0f7a4_15 : decode cJ6_bitCount_0f7a4 15 = .ok (.iload_n 0, 1) := by decide +kernel
theorem dJ6_bitCount_0f7a4_16 : decode cJ6_bitCount_0f7a4 16 = .ok (.iconst 2, 1) := by decide +kernel
theorem dJ6_bitCount_0f7a4_17 : decode cJ6_bitCount_0f7a4 17 = .ok (.iushr, 1) := by decide +kernel
theorem dJ6_bitCount_0f7a4_18 : decode cJ6_bitCount_0f7a4 18 = .ok (.ldc_w 266, 3) := by decide +kernel
theorem dJ6_bitCount_0f7a4_21 : decode cJ6_bitCount_0f7a4 21 = .ok (.iand, 1) := by decide +kernel
theorem dJ6_bitCount_0f7a4_22 : decode cJ6_bitCount_0f7a4 22 = .ok (.iadd, 1) := by decide +kernel
theorem dJ6_bitCount_0f7a4_23 : decode cJ6_bitCount_0f7a4 23 = .ok (.istore_n 0, 1) := by decide +kernel
theorem dJ6_bitCount_0f7a4_24 : decode cJ6_bitCount_0f7a4 24 = .ok (.iload_n 0, 1) := by decide +kernel
theorem dJ6_bitCount_0f7a4_25 : decode cJ6_bitCount_0f7a4 25 = .ok (.iload_n 0, 1) := by decide +kernel
theorem dJ6_bitCount_0f7a4_26 : decode cJ6_bitCount_0f7a4 26 = .ok (.iconst 4, 1) := by decide +kernel
theorem dJ6_bitCount_0f7a4_27 : decode cJ6_bitCount_0f7a4 27 = .ok (.iushr, 1) := by decide +kernel
theorem dJ6_bitCount_0f7a4_28 : decode cJ6_bitCount_0f7a4 28 = .ok (.iadd, 1) := by decide +kernel
theorem dJ6_bitCount_0f7a4_29 : decode cJ6_bitCount_0f7a4 29 = .ok (.ldc_w 267, 3) := by decide +kernel
theorem dJ6_bitCount_0f7a4_32 : decode cJ6_bitCount_0f7a4 32 = .ok (.iand, 1) := by decide +kernel
theorem dJ6_bitCount_0f7a4_33 : decode cJ6_bitCount_0f7a4 33 = .ok (.istore_n 0, 1) := by decide +kernel
theorem dJ6_bitCount_0f7a4_34 : decode cJ6_bitCount_0f7a4 34 = .ok (.iload_n 0, 1) := by decide +kernel
theorem dJ6_bitCount_0f7a4_35 : decode cJ6_bitCount_0f7a4 35 = .ok (.iload_n 0, 1) := by decide +kernel
theorem dJ6_bitCount_0f7a4_36 : decode cJ6_bitCount_0f7a4 36 = .ok (.bipush 8, 2) := by decide +kernel
theorem dJ6_bitCount_0f7a4_38 : decode cJ6_bitCount_0f7a4 38 = .ok (.iushr, 1) := by decide +kernel
theorem dJ6_bitCount_0f7a4_39 : decode cJ6_bitCount_0f7a4 39 = .ok (.iadd, 1) := by decide +kernel
theorem dJ6_bitCount_0f7a4_40 : decode cJ6_bitCount_0f7a4 40 = .ok (.istore_n 0, 1) := by decide +kernel
theorem dJ6_bitCount_0f7a4_41 : decode cJ6_bitCount_0f7a4 41 = .ok (.iload_n 0, 1) := by decide +kernel
theorem dJ6_bitCount_0f7a4_42 : decode cJ6_bitCount_0f7a4 42 = .ok (.iload_n 0, 1) := by decide +kernel
theorem dJ6_bitCount_0f7a4_43 : decode cJ6_bitCount_0f7a4 43 = .ok (.bipush 16, 2) := by decide +kernel
theorem dJ6_bitCount_0f7a4_45 : decode cJ6_bitCount_0f7a4 45 = .ok (.iushr, 1) := by decide +kernel
theorem dJ6_bitCount_0f7a4_46 : decode cJ6_bitCount_0f7a4 46 = .ok (.iadd, 1) := by decide +kernel
theorem dJ6_bitCount_0f7a4_47 : decode cJ6_bitCount_0f7a4 47 = .ok (.istore_n 0, 1) := by decide +kernel
theorem dJ6_bitCount_0f7a4_48 : decode cJ6_bitCount_0f7a4 48 = .ok (.iload_n 0, 1) := by decide +kernel
theorem dJ6_bitCount_0f7a4_49 : decode cJ6_bitCount_0f7a4 49 = .ok (.bipush 63, 2) := by decide +kernel
theorem dJ6_bitCount_0f7a4_51 : decode cJ6_bitCount_0f7a4 51 = .ok (.iand, 1) := by decide +kernel
theorem dJ6_bitCount_0f7a4_52 : decode cJ6_bitCount_0f7a4 52 = .ok (.ireturn, 1) := by decide +kernel
theorem dJ9_max_7cf53_0 : decode cJ9_max_7cf53 0 = .ok (.iload_n 0, 1) := by decide +kernel
theorem dJ9_max_7cf53_1 : decode cJ9_max_7cf53 1 = .ok (.iload_n 1, 1) := by decide +kernel
theorem dJ9_max_7cf53_2 : decode cJ9_max_7cf53 2 = .ok (.if_icmp .lt 7, 3) := by decide +kernel
theorem dJ9_max_7cf53_5 : decode cJ9_max_7cf53 5 = .ok (.iload_n 0, 1) := by decide +kernel
theorem dJ9_max_7cf53_6 : decode cJ9_max_7cf53 6 = .ok (.goto 4, 3) := by decide +kernel
theorem dJ9_max_7cf53_9 : decode cJ9_max_7cf53 9 = .ok (.iload_n 1, 1) := by decide +kernel
theorem dJ9_max_7cf53_10 : decode cJ9_max_7cf53 10 = .ok (.ireturn, 1) := by decide +kernel
theorem dJ9_min_7cf53_0 : decode cJ9_min_7cf53 0 = .ok (.iload_n 0, 1) := by decide +kernel
theorem dJ9_min_7cf53_1 : decode cJ9_min_7cf53 1 = .ok (.iload_n 1, 1) := by decide +kernel
theorem dJ9_min_7cf53_2 : decode cJ9_min_7cf53 2 = .ok (.if_icmp .gt 7, 3) := by decide +kernel
theorem dJ9_min_7cf53_5 : decode cJ9_min_7cf53 5 = .ok (.iload_n 0, 1) := by decide +kernel
theorem dJ9_min_7cf53_6 : decode cJ9_min_7cf53 6 = .ok (.goto 4, 3) := by decide +kernel
theorem dJ9_min_7cf53_9 : decode cJ9_min_7cf53 9 = .ok (.iload_n 1, 1) := by decide +kernel
theorem dJ9_min_7cf53_10 : decode cJ9_min_7cf53 10 = .ok (.ireturn, 1) := by decide +kernel
theorem dJ0_length_8abf5_0 : decode cJ0_length_8abf5 0 = .ok (.aload_n 0, 1) := by decide +kernel
theorem dJ0_length_8abf5_1 : decode cJ0_length_8abf5 1 = .ok (.getfield 9, 3) := by decide +kernel
theorem dJ0_length_8abf5_4 : decode cJ0_length_8abf5 4 = .ok (.arraylength, 1) := by decide +kernel
theorem dJ0_length_8abf5_5 : decode cJ0_length_8abf5 5 = .ok (.aload_n 0, 1) := by decide +kernel
theorem dJ0_length_8abf5_6 : decode cJ0_length_8abf5 6 = .ok (.invokevirtual 335, 3) := by decide +kernel
theorem dJ0_length_8abf5_9 : decode cJ0_length_8abf5 9 = .ok (.ishr, 1) := by decide +kernel
theorem dJ0_length_8abf5_10 : decode cJ0_length_8abf5 10 = .ok (.ireturn, 1) := by decide +kernel
theorem dJ0_charAt_5068e_0 : decode cJ0_charAt_5068e 0 = .ok (.aload_n 0, 1) := by decide +kernel
theorem dJ0_charAt_5068e_1 : decode cJ0_charAt_5068e 1 = .ok (.invokevirtual 492, 3) := by decide +kernel
theorem dJ0_charAt_5068e_4 : decode cJ0_charAt_5068e 4 = .ok (.ifCond .eq 12, 3) := by decide +kernel
theorem dJ0_charAt_5068e_7 : decode cJ0_charAt_5068e 7 = .ok (.aload_n 0, 1) := by decide +kernel
theorem dJ0_charAt_5068e_8 : decode cJ0_charAt_5068e 8 = .ok (.getfield 9, 3) := by decide +kernel
theorem dJ0_charAt_5068e_11 : decode cJ0_charAt_5068e 11 = .ok (.iload_n 1, 1) := by decide +kernel
theorem dJ0_charAt_5068e_12 : decode cJ0_charAt_5068e 12 = .ok (.invokestatic 495, 3) := by decide +kernel
theorem dJ0_charAt_5068e_15 : decode cJ0_charAt_5068e 15 = .ok (.ireturn, 1) := by decide +kernel
theorem dJ0_charAt_5068e_16 : decode cJ0_charAt_5068e 16 = .ok (.aload_n 0, 1) := by decide +kernel
theorem dJ0_charAt_5068e_17 : decode cJ0_charAt_5068e 17 = .ok (.getfield 9, 3) := by decide +kernel
theorem dJ0_charAt_5068e_20 : decode cJ0_charAt_5068e 20 = .ok (.iload_n 1, 1) := by decide +kernel
theorem dJ0_charAt_5068e_21 : decode cJ0_charAt_5068e 21 = .ok (.invokestatic 498, 3) := by decide +kernel
theorem dJ0_charAt_5068e_24 : decode cJ0_charAt_5068e 24 = .ok (.ireturn, 1) := by decide +kernel
theorem dJ0_coder_7d493_0 : decode cJ0_coder_7d493 0 = .ok (.getstatic 38, 3) := by decide +kernel
theorem dJ0_coder_7d493_3 : decode cJ0_coder_7d493 3 = .ok (.ifCond .eq 10, 3) := by decide +kernel
theorem dJ0_coder_7d493_6 : decode cJ0_coder_7d493 6 = .ok (.aload_n 0, 1) := by decide +kernel
theorem dJ0_coder_7d493_7 : decode cJ0_coder_7d493 7 = .ok (.getfield 15, 3) := by decide +kernel
theorem dJ0_coder_7d493_10 : decode cJ0_coder_7d493 10 = .ok (.goto 4, 3) := by decide +kernel
theorem dJ0_coder_7d493_13 : decode cJ0_coder_7d493 13 = .ok (.iconst 1, 1) := by decide +kernel
theorem dJ0_coder_7d493_14 : decode cJ0_coder_7d493 14 = .ok (.ireturn, 1) := by decide +kernel
theorem dJ0_isLatin1_aae02_0 : decode cJ0_isLatin1_aae02 0 = .ok (.getstatic 38, 3) := by decide +kernel
theorem dJ0_isLatin1_aae02_3 : decode cJ0_isLatin1_aae02 3 = .ok (.ifCond .eq 14, 3) := by decide +kernel
theorem dJ0_isLatin1_aae02_6 : decode cJ0_isLatin1_aae02 6 = .ok (.aload_n 0, 1) := by decide +kernel
theorem dJ0_isLatin1_aae02_7 : decode cJ0_isLatin1_aae02 7 = .ok (.getfield 15, 3) := by decide +kernel
theorem dJ0_isLatin1_aae02_10 : decode cJ0_isLatin1_aae02 10 = .ok (.ifCond .ne 7, 3) := by decide +kernel
theorem dJ0_isLatin1_aae02_13 : decode cJ0_isLatin1_aae02 13 = .ok (.iconst 1, 1) := by decide +kernel
theorem dJ0_isLatin1_aae02_14 : decode cJ0_isLatin1_aae02 14 = .ok (.goto 4, 3) := by decide +kernel
theorem dJ0_isLatin1_aae02_17 : decode cJ0_isLatin1_aae02 17 = .ok (.iconst 0, 1) := by decide +kernel
theorem dJ0_isLatin1_aae02_18 : decode cJ0_isLatin1_aae02 18 = .ok (.ireturn, 1) := by decide +kernel
theorem dJ0_checkIndex_df160_0 : decode cJ0_checkIndex_df160 0 = .ok (.iload_n 0, 1) := by decide +kernel
theorem dJ0_checkIndex_df160_1 : decode cJ0_checkIndex_df160 1 = .ok (.iload_n 1, 1) := by decide +kernel
theorem dJ0_checkIndex_df160_2 : decode cJ0_checkIndex_df160 2 = .ok (.getstatic 1053, 3) := by decide +kernel
theorem dJ0_checkIndex_df160_5 : decode cJ0_checkIndex_df160 5 = .ok (.invokestatic 1059, 3) := by decide +kernel
theorem dJ0_checkIndex_df160_8 : decode cJ0_checkIndex_df160 8 = .ok (.pop, 1) := by decide +kernel
theorem dJ0_checkIndex_df160_9 : decode cJ0_checkIndex_df160 9 = .ok (.return_, 1) := by decide +kernel
theorem dJ1_charAt_3b067_0 : decode cJ1_charAt_3b067 0 = .ok (.iload_n 1, 1) := by decide +kernel
theorem dJ1_charAt_3b067_1 : decode cJ1_charAt_3b067 1 = .ok (.aload_n 0, 1) := by decide +kernel
theorem dJ1_charAt_3b067_2 : decode cJ1_charAt_3b067 2 = .ok (.arraylength, 1) := by decide +kernel
theorem dJ1_charAt_3b067_3 : decode cJ1_charAt_3b067 3 = .ok (.invokestatic 9, 3) := by decide +kernel
theorem dJ1_charAt_3b067_6 : decode cJ1_charAt_3b067 6 = .ok (.aload_n 0, 1) := by decide +kernel
theorem dJ1_charAt_3b067_7 : decode cJ1_charAt_3b067 7 = .ok (.iload_n 1, 1) := by decide +kernel
theorem dJ1_charAt_3b067_8 : decode cJ1_charAt_3b067 8 = .ok (.baload, 1) := by decide +kernel
theorem dJ1_charAt_3b067_9 : decode cJ1_charAt_3b067 9 = .ok (.sipush 255, 3) := by decide +kernel
theorem dJ1_charAt_3b067_12 : decode cJ1_charAt_3b067 12 = .ok (.iand, 1) := by decide +kernel
theorem dJ1_charAt_3b067_13 : decode cJ1_charAt_3b067 13 = .ok (.i2c, 1) := by decide +kernel
theorem dJ1_charAt_3b067_14 : decode cJ1_charAt_3b067 14 = .ok (.ireturn, 1) := by decide +kernel
theorem dJ2_getChar_3b067_0 : decode cJ2_getChar_3b067 0 = .ok (.getstatic 44, 3) := by decide +kernel
theorem dJ2_getChar_3b067_3 : decode cJ2_getChar_3b067 3 = .ok (.ifCond .ne 25, 3) := by decide +kernel
theorem dJ2_getChar_3b067_6 : decode cJ2_getChar_3b067 6 = .ok (.iload_n 1, 1) := by decide +kernel
theorem dJ2_getChar_3b067_7 : decode cJ2_getChar_3b067 7 = .ok (.ifCond .lt 11, 3) := by decide +kernel
theorem dJ2_getChar_3b067_10 : decode cJ2_getChar_3b067 10 = .ok (.iload_n 1, 1) := by decide +kernel
theorem dJ2_getChar_3b067_11 : decode cJ2_getChar_3b067 11 = .ok (.aload_n 0, 1) := by decide +kernel
theorem dJ2_getChar_3b067_12 : decode cJ2_getChar_3b067 12 = .ok (.invokestatic 48, 3) := by decide +kernel
theorem dJ2_getChar_3b067_15 : decode cJ2_getChar_3b067 15 = .ok (.if_icmp .lt 13, 3) := by decide +kernel
theorem dJ2_getChar_3b067_18 : decode cJ2_getChar_3b067 18 = .ok (.new 52, 3) := by decide +kernel
theorem dJ2_getChar_3b067_21 : decode cJ2_getChar_3b067 21 = .ok (.dup, 1) := by decide +kernel
theorem dJ2_getChar_3b067_22 : decode cJ2_getChar_3b067 22 = .ok (.ldc 54, 2) := by decide +kernel
theorem dJ2_getChar_3b067_24 : decode cJ2_getChar_3b067 24 = .ok (.invokespecial 56, 3) := by decide +kernel
theorem dJ2_getChar_3b067_27 : decode cJ2_getChar_3b067 27 = .ok (.athrow, 1) := by decide +kernel
theorem dJ2_getChar_3b067_28 : decode cJ2_getChar_3b067 28 = .ok (.iload_n 1, 1) := by decide +kernel
theorem dJ2_getChar_3b067_29 : decode cJ2_getChar_3b067 29 = .ok (.iconst 1, 1) := by decide +kernel
theorem dJ2_getChar_3b067_30 : decode cJ2_getChar_3b067 30 = .ok (.ishl, 1) := by decide +kernel
theorem dJ2_getChar_3b067_31 : decode cJ2_getChar_3b067 31 = .ok (.istore_n 1, 1) := by decide +kernel
theorem dJ2_getChar_3b067_32 : decode cJ2_getChar_3b067 32 = .ok (.aload_n 0, 1) := by decide +kernel
theorem dJ2_getChar_3b067_33 : decode cJ2_getChar_3b067 33 = .ok (.iload_n 1, 1) := by decide +kernel
theorem dJ2_getChar_3b067_34 : decode cJ2_getChar_3b067 34 = .ok (.iinc 1 1, 3) := by decide +kernel
theorem dJ2_getChar_3b067_37 : decode cJ2_getChar_3b067 37 = .ok (.baload, 1) := by decide +kernel
theorem dJ2_getChar_3b067_38 : decode cJ2_getChar_3b067 38 = .ok (.sipush 255, 3) := by decide +kernel
theorem dJ2_getChar_3b067_41 : decode cJ2_getChar_3b067 41 = .ok (.iand, 1) := by decide +kernel
theorem dJ2_getChar_3b067_42 : decode cJ2_getChar_3b067 42 = .ok (.getstatic 59, 3) := by decide +kernel
theorem dJ2_getChar_3b067_45 : decode cJ2_getChar_3b067 45 = .ok (.ishl, 1) := by decide +kernel
theorem dJ2_getChar_3b067_46 : decode cJ2_getChar_3b067 46 = .ok (.aload_n 0, 1) := by decide +kernel
theorem dJ2_getChar_3b067_47 : decode cJ2_getChar_3b067 47 = .ok (.iload_n 1, 1) := by decide +kernel
theorem dJ2_getChar_3b067_48 : decode cJ2_getChar_3b067 48 = .ok (.baload, 1) := by decide +kernel
theorem dJ2_getChar_3b067_49 : decode cJ2_getChar_3b067 49 = .ok (.sipush 255, 3) := by decide +kernel
theorem dJ2_getChar_3b067_52 : decode cJ2_getChar_3b067 52 = .ok (.iand, 1) := by decide +kernel
theorem dJ2_getChar_3b067_53 : decode cJ2_getChar_3b067 53 = .ok (.getstatic 63, 3) := by decide +kernel
theorem dJ2_getChar_3b067_56 : decode cJ2_getChar_3b067 56 = .ok (.ishl, 1) := by decide +kernel
theorem dJ2_getChar_3b067_57 : decode cJ2_getChar_3b067 57 = .ok (.ior, 1) := by decide +kernel
theorem dJ2_getChar_3b067_58 : decode cJ2_getChar_3b067 58 = .ok (.i2c, 1) := by decide +kernel
theorem dJ2_getChar_3b067_59 : decode cJ2_getChar_3b067 59 = .ok (.ireturn, 1) := by decide +kernel
theorem dJ2_length_9d52b_0 : decode cJ2_length_9d52b 0 = .ok (.aload_n 0, 1) := by decide +kernel
theorem dJ2_length_9d52b_1 : decode cJ2_length_9d52b 1 = .ok (.arraylength, 1) := by decide +kernel
theorem dJ2_length_9d52b_2 : decode cJ2_length_9d52b 2 = .ok (.iconst 1, 1) := by decide +kernel
theorem dJ2_length_9d52b_3 : decode cJ2_length_9d52b 3 = .ok (.ishr, 1) := by decide +kernel
theorem dJ2_length_9d52b_4 : decode cJ2_length_9d52b 4 = .ok (.ireturn, 1) := by decide +kernel
