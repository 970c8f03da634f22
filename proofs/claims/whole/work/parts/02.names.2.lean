theorem dX4_tryAll_0 : decode cX4_tryAll 0 = .ok (.aload_n 0, 1) := by decide +kernel
theorem dX4_tryAll_1 : decode cX4_tryAll 1 = .ok (.iconst 0, 1) := by decide +kernel
theorem dX4_tryAll_2 : decode cX4_tryAll 2 = .ok (.putfield 18, 3) := by decide +kernel
theorem dX4_tryAll_5 : decode cX4_tryAll 5 = .ok (.aload_n 0, 1) := by decide +kernel
theorem dX4_tryAll_6 : decode cX4_tryAll 6 = .ok (.bipush 41, 2) := by decide +kernel
theorem dX4_tryAll_8 : decode cX4_tryAll 8 = .ok (.putfield 22, 3) := by decide +kernel
theorem dX4_tryAll_11 : decode cX4_tryAll 11 = .ok (.iconst 0, 1) := by decide +kernel
theorem dX4_tryAll_12 : decode cX4_tryAll 12 = .ok (.istore_n 3, 1) := by decide +kernel
theorem dX4_tryAll_13 : decode cX4_tryAll 13 = .ok (.iload_n 3, 1) := by decide +kernel
theorem dX4_tryAll_14 : decode cX4_tryAll 14 = .ok (.iconst 4, 1) := by decide +kernel
theorem dX4_tryAll_15 : decode cX4_tryAll 15 = .ok (.if_icmp .ge 16, 3) := by decide +kernel
theorem dX4_tryAll_18 : decode cX4_tryAll 18 = .ok (.aload_n 0, 1) := by decide +kernel
theorem dX4_tryAll_19 : decode cX4_tryAll 19 = .ok (.getfield 15, 3) := by decide +kernel
theorem dX4_tryAll_22 : decode cX4_tryAll 22 = .ok (.iload_n 3, 1) := by decide +kernel
theorem dX4_tryAll_23 : decode cX4_tryAll 23 = .ok (.iload_n 3, 1) := by decide +kernel
theorem dX4_tryAll_24 : decode cX4_tryAll 24 = .ok (.iastore, 1) := by decide +kernel
theorem dX4_tryAll_25 : decode cX4_tryAll 25 = .ok (.iinc 3 1, 3) := by decide +kernel
theorem dX4_tryAll_28 : decode cX4_tryAll 28 = .ok (.goto (-15), 3) := by decide +kernel
theorem dX4_tryAll_31 : decode cX4_tryAll 31 = .ok (.iconst 1, 1) := by decide +kernel
theorem dX4_tryAll_32 : decode cX4_tryAll 32 = .ok (.istore_n 3, 1) := by decide +kernel
theorem dX4_tryAll_33 : decode cX4_tryAll 33 = .ok (.iconst 0, 1) := by decide +kernel
theorem dX4_tryAll_34 : decode cX4_tryAll 34 = .ok (.istore 4, 2) := by decide +kernel
theorem dX4_tryAll_36 : decode cX4_tryAll 36 = .ok (.iload 4, 2) := by decide +kernel
theorem dX4_tryAll_38 : decode cX4_tryAll 38 = .ok (.bipush 24, 2) := by decide +kernel
theorem dX4_tryAll_40 : decode cX4_tryAll 40 = .ok (.if_icmp .ge 48, 3) := by decide +kernel
theorem dX4_tryAll_43 : decode cX4_tryAll 43 = .ok (.iload_n 3, 1) := by decide +kernel
theorem dX4_tryAll_44 : decode cX4_tryAll 44 = .ok (.ifCond .eq 44, 3) := by decide +kernel
theorem dX4_tryAll_47 : decode cX4_tryAll 47 = .ok (.aload_n 2, 1) := by decide +kernel
theorem dX4_tryAll_48 : decode cX4_tryAll 48 = .ok (.aload_n 1, 1) := by decide +kernel
theorem dX4_tryAll_49 : decode cX4_tryAll 49 = .ok (.invokevirtual 25, 3) := by decide +kernel
theorem dX4_tryAll_52 : decode cX4_tryAll 52 = .ok (.aload_n 0, 1) := by decide +kernel
theorem dX4_tryAll_53 : decode cX4_tryAll 53 = .ok (.getfield 15, 3) := by decide +kernel
theorem dX4_tryAll_56 : decode cX4_tryAll 56 = .ok (.aload_n 2, 1) := by decide +kernel
theorem dX4_tryAll_57 : decode cX4_tryAll 57 = .ok (.getfield 31, 3) := by decide +kernel
theorem dX4_tryAll_60 : decode cX4_tryAll 60 = .ok (.invokestatic 32, 3) := by decide +kernel
theorem dX4_tryAll_63 : decode cX4_tryAll 63 = .ok (.aload_n 0, 1) := by decide +kernel
theorem dX4_tryAll_64 : decode cX4_tryAll 64 = .ok (.aload_n 2, 1) := by decide +kernel
theorem dX4_tryAll_65 : decode cX4_tryAll 65 = .ok (.bipush 40, 2) := by decide +kernel
theorem dX4_tryAll_67 : decode cX4_tryAll 67 = .ok (.invokevirtual 36, 3) := by decide +kernel
theorem dX4_tryAll_70 : decode cX4_tryAll 70 = .ok (.invokevirtual 40, 3) := by decide +kernel
theorem dX4_tryAll_73 : decode cX4_tryAll 73 = .ok (.aload_n 0, 1) := by decide +kernel
theorem dX4_tryAll_74 : decode cX4_tryAll 74 = .ok (.aload_n 1, 1) := by decide +kernel
theorem dX4_tryAll_75 : decode cX4_tryAll 75 = .ok (.getfield 44, 3) := by decide +kernel
theorem dX4_tryAll_78 : decode cX4_tryAll 78 = .ok (.invokevirtual 47, 3) := by decide +kernel
theorem dX4_tryAll_81 : decode cX4_tryAll 81 = .ok (.istore_n 3, 1) := by decide +kernel
theorem dX4_tryAll_82 : decode cX4_tryAll 82 = .ok (.iinc 4 1, 3) := by decide +kernel
theorem dX4_tryAll_85 : decode cX4_tryAll 85 = .ok (.goto (-49), 3) := by decide +kernel
theorem dX4_tryAll_88 : decode cX4_tryAll 88 = .ok (.return_, 1) := by decide +kernel
theorem dX4_note_0 : decode cX4_note 0 = .ok (.iload_n 1, 1) := by decide +kernel
theorem dX4_note_1 : decode cX4_note 1 = .ok (.bipush (-4), 2) := by decide +kernel
theorem dX4_note_3 : decode cX4_note 3 = .ok (.if_icmp .ne 4, 3) := by decide +kernel
theorem dX4_note_6 : decode cX4_note 6 = .ok (.return_, 1) := by decide +kernel
theorem dX4_note_7 : decode cX4_note 7 = .ok (.aload_n 0, 1) := by decide +kernel
theorem dX4_note_8 : decode cX4_note 8 = .ok (.dup, 1) := by decide +kernel
theorem dX4_note_9 : decode cX4_note 9 = .ok (.getfield 18, 3) := by decide +kernel
theorem dX4_note_12 : decode cX4_note 12 = .ok (.iconst 1, 1) := by decide +kernel
theorem dX4_note_13 : decode cX4_note 13 = .ok (.iadd, 1) := by decide +kernel
theorem dX4_note_14 : decode cX4_note 14 = .ok (.putfield 18, 3) := by decide +kernel
theorem dX4_note_17 : decode cX4_note 17 = .ok (.iload_n 1, 1) := by decide +kernel
theorem dX4_note_18 : decode cX4_note 18 = .ok (.aload_n 0, 1) := by decide +kernel
theorem dX4_note_19 : decode cX4_note 19 = .ok (.getfield 22, 3) := by decide +kernel
theorem dX4_note_22 : decode cX4_note 22 = .ok (.if_icmp .ge 19, 3) := by decide +kernel
theorem dX4_note_25 : decode cX4_note 25 = .ok (.aload_n 0, 1) := by decide +kernel
theorem dX4_note_26 : decode cX4_note 26 = .ok (.iload_n 1, 1) := by decide +kernel
theorem dX4_note_27 : decode cX4_note 27 = .ok (.putfield 22, 3) := by decide +kernel
theorem dX4_note_30 : decode cX4_note 30 = .ok (.aload_n 0, 1) := by decide +kernel
theorem dX4_note_31 : decode cX4_note 31 = .ok (.getfield 15, 3) := by decide +kernel
theorem dX4_note_34 : decode cX4_note 34 = .ok (.aload_n 0, 1) := by decide +kernel
theorem dX4_note_35 : decode cX4_note 35 = .ok (.getfield 9, 3) := by decide +kernel
theorem dX4_note_38 : decode cX4_note 38 = .ok (.invokestatic 32, 3) := by decide +kernel
theorem dX4_note_41 : decode cX4_note 41 = .ok (.return_, 1) := by decide +kernel
theorem dX4_copyOrder_0 : decode cX4_copyOrder 0 = .ok (.iconst 0, 1) := by decide +kernel
theorem dX4_copyOrder_1 : decode cX4_copyOrder 1 = .ok (.istore_n 2, 1) := by decide +kernel
theorem dX4_copyOrder_2 : decode cX4_copyOrder 2 = .ok (.iload_n 2, 1) := by decide +kernel
theorem dX4_copyOrder_3 : decode cX4_copyOrder 3 = .ok (.iconst 4, 1) := by decide +kernel
theorem dX4_copyOrder_4 : decode cX4_copyOrder 4 = .ok (.if_icmp .ge 15, 3) := by decide +kernel
theorem dX4_copyOrder_7 : decode cX4_copyOrder 7 = .ok (.aload_n 1, 1) := by decide +kernel
theorem dX4_copyOrder_8 : decode cX4_copyOrder 8 = .ok (.iload_n 2, 1) := by decide +kernel
theorem dX4_copyOrder_9 : decode cX4_copyOrder 9 = .ok (.aload_n 0, 1) := by decide +kernel
theorem dX4_copyOrder_10 : decode cX4_copyOrder 10 = .ok (.iload_n 2, 1) := by decide +kernel
theorem dX4_copyOrder_11 : decode cX4_copyOrder 11 = .ok (.iaload, 1) := by decide +kernel
theorem dX4_copyOrder_12 : decode cX4_copyOrder 12 = .ok (.iastore, 1) := by decide +kernel
theorem dX4_copyOrder_13 : decode cX4_copyOrder 13 = .ok (.iinc 2 1, 3) := by decide +kernel
theorem dX4_copyOrder_16 : decode cX4_copyOrder 16 = .ok (.goto (-14), 3) := by decide +kernel
theorem dX4_copyOrder_19 : decode cX4_copyOrder 19 = .ok (.return_, 1) := by decide +kernel
theorem dX4_turnToNext_0 : decode cX4_turnToNext 0 = .ok (.iload_n 1, 1) := by decide +kernel
theorem dX4_turnToNext_1 : decode cX4_turnToNext 1 = .ok (.iconst 2, 1) := by decide +kernel
theorem dX4_turnToNext_2 : decode cX4_turnToNext 2 = .ok (.isub, 1) := by decide +kernel
theorem dX4_turnToNext_3 : decode cX4_turnToNext 3 = .ok (.istore_n 2, 1) := by decide +kernel
theorem dX4_turnToNext_4 : decode cX4_turnToNext 4 = .ok (.iload_n 2, 1) := by decide +kernel
theorem dX4_turnToNext_5 : decode cX4_turnToNext 5 = .ok (.ifCond .lt 26, 3) := by decide +kernel
theorem dX4_turnToNext_8 : decode cX4_turnToNext 8 = .ok (.aload_n 0, 1) := by decide +kernel
theorem dX4_turnToNext_9 : decode cX4_turnToNext 9 = .ok (.getfield 15, 3) := by decide +kernel
theorem dX4_turnToNext_12 : decode cX4_turnToNext 12 = .ok (.iload_n 2, 1) := by decide +kernel
theorem dX4_turnToNext_13 : decode cX4_turnToNext 13 = .ok (.iaload, 1) := by decide +kernel
theorem dX4_turnToNext_14 : decode cX4_turnToNext 14 = .ok (.aload_n 0, 1) := by decide +kernel
theorem dX4_turnToNext_15 : decode cX4_turnToNext 15 = .ok (.getfield 15, 3) := by decide +kernel
theorem dX4_turnToNext_18 : decode cX4_turnToNext 18 = .ok (.iload_n 2, 1) := by decide +kernel
theorem dX4_turnToNext_19 : decode cX4_turnToNext 19 = .ok (.iconst 1, 1) := by decide +kernel
theorem dX4_turnToNext_20 : decode cX4_turnToNext 20 = .ok (.iadd, 1) := by decide +kernel
theorem dX4_turnToNext_21 : decode cX4_turnToNext 21 = .ok (.iaload, 1) := by decide +kernel
theorem dX4_turnToNext_22 : decode cX4_turnToNext 22 = .ok (.if_icmp .le 9, 3) := by decide +kernel
theorem dX4_turnToNext_25 : decode cX4_turnToNext 25 = .ok (.iinc 2 (-1), 3) := by decide +kernel
theorem dX4_turnToNext_28 : decode cX4_turnToNext 28 = .ok (.goto (-24), 3) := by decide +kernel
theorem dX4_turnToNext_31 : decode cX4_turnToNext 31 = .ok (.iload_n 2, 1) := by decide +kernel
theorem dX4_turnToNext_32 : decode cX4_turnToNext 32 = .ok (.ifCond .ge 5, 3) := by decide +kernel
theorem dX4_turnToNext_35 : decode cX4_turnToNext 35 = .ok (.iconst 0, 1) := by decide +kernel
theorem dX4_turnToNext_36 : decode cX4_turnToNext 36 = .ok (.ireturn, 1) := by decide +kernel
theorem dX4_turnToNext_37 : decode cX4_turnToNext 37 = .ok (.iload_n 1, 1) := by decide +kernel
theorem dX4_turnToNext_38 : decode cX4_turnToNext 38 = .ok (.iconst 1, 1) := by decide +kernel
theorem dX4_turnToNext_39 : decode cX4_turnToNext 39 = .ok (.isub, 1) := by decide +kernel
theorem dX4_turnToNext_40 : decode cX4_turnToNext 40 = .ok (.istore_n 3, 1) := by decide +kernel
theorem dX4_turnToNext_41 : decode cX4_turnToNext 41 = .ok (.iload_n 3, 1) := by decide +kernel
theorem dX4_turnToNext_42 : decode cX4_turnToNext 42 = .ok (.iload_n 2, 1) := by decide +kernel
theorem dX4_turnToNext_43 : decode cX4_turnToNext 43 = .ok (.if_icmp .le 24, 3) := by decide +kernel
theorem dX4_turnToNext_46 : decode cX4_turnToNext 46 = .ok (.aload_n 0, 1) := by decide +kernel
theorem dX4_turnToNext_47 : decode cX4_turnToNext 47 = .ok (.getfield 15, 3) := by decide +kernel
theorem dX4_turnToNext_50 : decode cX4_turnToNext 50 = .ok (.iload_n 3, 1) := by decide +kernel
theorem dX4_turnToNext_51 : decode cX4_turnToNext 51 = .ok (.iaload, 1) := by decide +kernel
theorem dX4_turnToNext_52 : decode cX4_turnToNext 52 = .ok (.aload_n 0, 1) := by decide +kernel
theorem dX4_turnToNext_53 : decode cX4_turnToNext 53 = .ok (.getfield 15, 3) := by decide +kernel
theorem dX4_turnToNext_56 : decode cX4_turnToNext 56 = .ok (.iload_n 2, 1) := by decide +kernel
theorem dX4_turnToNext_57 : decode cX4_turnToNext 57 = .ok (.iaload, 1) := by decide +kernel
theorem dX4_turnToNext_58 : decode cX4_turnToNext 58 = .ok (.if_icmp .ge 9, 3) := by decide +kernel
theorem dX4_turnToNext_61 : decode cX4_turnToNext 61 = .ok (.iinc 3 (-1), 3) := by decide +kernel
theorem dX4_turnToNext_64 : decode cX4_turnToNext 64 = .ok (.goto (-23), 3) := by decide +kernel
theorem dX4_turnToNext_67 : decode cX4_turnToNext 67 = .ok (.aload_n 0, 1) := by decide +kernel
theorem dX4_turnToNext_68 : decode cX4_turnToNext 68 = .ok (.iload_n 2, 1) := by decide +kernel
theorem dX4_turnToNext_69 : decode cX4_turnToNext 69 = .ok (.iload_n 3, 1) := by decide +kernel
theorem dX4_turnToNext_70 : decode cX4_turnToNext 70 = .ok (.invokevirtual 51, 3) := by decide +kernel
theorem dX4_turnToNext_73 : decode cX4_turnToNext 73 = .ok (.iload_n 2, 1) := by decide +kernel
theorem dX4_turnToNext_74 : decode cX4_turnToNext 74 = .ok (.iconst 1, 1) := by decide +kernel
theorem dX4_turnToNext_75 : decode cX4_turnToNext 75 = .ok (.iadd, 1) := by decide +kernel
theorem dX4_turnToNext_76 : decode cX4_turnToNext 76 = .ok (.istore 4, 2) := by decide +kernel
theorem dX4_turnToNext_78 : decode cX4_turnToNext 78 = .ok (.iload_n 1, 1) := by decide +kernel
theorem dX4_turnToNext_79 : decode cX4_turnToNext 79 = .ok (.iconst 1, 1) := by decide +kernel
theorem dX4_turnToNext_80 : decode cX4_turnToNext 80 = .ok (.isub, 1) := by decide +kernel
theorem dX4_turnToNext_81 : decode cX4_turnToNext 81 = .ok (.istore 5, 2) := by decide +kernel
theorem dX4_turnToNext_83 : decode cX4_turnToNext 83 = .ok (.iload 4, 2) := by decide +kernel
theorem dX4_turnToNext_85 : decode cX4_turnToNext 85 = .ok (.iload 5, 2) := by decide +kernel
theorem dX4_turnToNext_87 : decode cX4_turnToNext 87 = .ok (.if_icmp .ge 20, 3) := by decide +kernel
theorem dX4_turnToNext_90 : decode cX4_turnToNext 90 = .ok (.aload_n 0, 1) := by decide +kernel
theorem dX4_turnToNext_91 : decode cX4_turnToNext 91 = .ok (.iload 4, 2) := by decide +kernel
theorem dX4_turnToNext_93 : decode cX4_turnToNext 93 = .ok (.iload 5, 2) := by decide +kernel
theorem dX4_turnToNext_95 : decode cX4_turnToNext 95 = .ok (.invokevirtual 51, 3) := by decide +kernel
theorem dX4_turnToNext_98 : decode cX4_turnToNext 98 = .ok (.iinc 4 1, 3) := by decide +kernel
theorem dX4_turnToNext_101 : decode cX4_turnToNext 101 = .ok (.iinc 5 (-1), 3) := by decide +kernel
theorem dX4_turnToNext_104 : decode cX4_turnToNext 104 = .ok (.goto (-21), 3) := by decide +kernel
theorem dX4_turnToNext_107 : decode cX4_turnToNext 107 = .ok (.iconst 1, 1) := by decide +kernel
theorem dX4_turnToNext_108 : decode cX4_turnToNext 108 = .ok (.ireturn, 1) := by decide +kernel
theorem dX4_swap_0 : decode cX4_swap 0 = .ok (.aload_n 0, 1) := by decide +kernel
theorem dX4_swap_1 : decode cX4_swap 1 = .ok (.getfield 15, 3) := by decide +kernel
theorem dX4_swap_4 : decode cX4_swap 4 = .ok (.iload_n 1, 1) := by decide +kernel
theorem dX4_swap_5 : decode cX4_swap 5 = .ok (.iaload, 1) := by decide +kernel
theorem dX4_swap_6 : decode cX4_swap 6 = .ok (.istore_n 3, 1) := by decide +kernel
theorem dX4_swap_7 : decode cX4_swap 7 = .ok (.aload_n 0, 1) := by decide +kernel
theorem dX4_swap_8 : decode cX4_swap 8 = .ok (.getfield 15, 3) := by decide +kernel
theorem dX4_swap_11 : decode cX4_swap 11 = .ok (.iload_n 1, 1) := by decide +kernel
theorem dX4_swap_12 : decode cX4_swap 12 = .ok (.aload_n 0, 1) := by decide +kernel
theorem dX4_swap_13 : decode cX4_swap 13 = .ok (.getfield 15, 3) := by decide +kernel
theorem dX4_swap_16 : decode cX4_swap 16 = .ok (.iload_n 2, 1) := by decide +kernel
theorem dX4_swap_17 : decode cX4_swap 17 = .ok (.iaload, 1) := by decide +kernel
theorem dX4_swap_18 : decode cX4_swap 18 = .ok (.iastore, 1) := by decide +kernel
theorem dX4_swap_19 : decode cX4_swap 19 = .ok (.aload_n 0, 1) := by decide +kernel
theorem dX4_swap_20 : decode cX4_swap 20 = .ok (.getfield 15, 3) := by decide +kernel
theorem dX4_swap_23 : decode cX4_swap 23 = .ok (.iload_n 2, 1) := by decide +kernel
theorem dX4_swap_24 : decode cX4_swap 24 = .ok (.iload_n 3, 1) := by decide +kernel
theorem dX4_swap_25 : decode cX4_swap 25 = .ok (.iastore, 1) := by decide +kernel
theorem dX4_swap_26 : decode cX4_swap 26 = .ok (.return_, 1) := by decide +kernel
theorem dX5_init_0 : decode cX5_init 0 = .ok (.aload_n 0, 1) := by decide +kernel
theorem dX5_init_1 : decode cX5_init 1 = .ok (.invokespecial 3, 3) := by decide +kernel
theorem dX5_init_4 : decode cX5_init 4 = .ok (.aload_n 0, 1) := by decide +kernel
theorem dX5_init_5 : decode cX5_init 5 = .ok (.bipush 40, 2) := by decide +kernel
theorem dX5_init_7 : decode cX5_init 7 = .ok (.newarray .int, 2) := by decide +kernel
theorem dX5_init_9 : decode cX5_init 9 = .ok (.putfield 9, 3) := by decide +kernel
theorem dX5_init_12 : decode cX5_init 12 = .ok (.aload_n 0, 1) := by decide +kernel
theorem dX5_init_13 : decode cX5_init 13 = .ok (.iconst (-1), 1) := by decide +kernel
theorem dX5_init_14 : decode cX5_init 14 = .ok (.putfield 15, 3) := by decide +kernel
theorem dX5_init_17 : decode cX5_init 17 = .ok (.return_, 1) := by decide +kernel
theorem dX5_renew_0 : decode cX5_renew 0 = .ok (.aload_n 0, 1) := by decide +kernel
theorem dX5_renew_1 : decode cX5_renew 1 = .ok (.iload_n 1, 1) := by decide +kernel
theorem dX5_renew_2 : decode cX5_renew 2 = .ok (.putfield 15, 3) := by decide +kernel
theorem dX5_renew_5 : decode cX5_renew 5 = .ok (.aload_n 0, 1) := by decide +kernel
theorem dX5_renew_6 : decode cX5_renew 6 = .ok (.iload_n 2, 1) := by decide +kernel
theorem dX5_renew_7 : decode cX5_renew 7 = .ok (.putfield 19, 3) := by decide +kernel
theorem dX5_renew_10 : decode cX5_renew 10 = .ok (.iconst 0, 1) := by decide +kernel
theorem dX5_renew_11 : decode cX5_renew 11 = .ok (.istore_n 3, 1) := by decide +kernel
theorem dX5_renew_12 : decode cX5_renew 12 = .ok (.iload_n 3, 1) := by decide +kernel
theorem dX5_renew_13 : decode cX5_renew 13 = .ok (.bipush 40, 2) := by decide +kernel
theorem dX5_renew_15 : decode cX5_renew 15 = .ok (.if_icmp .ge 16, 3) := by decide +kernel
theorem dX5_renew_18 : decode cX5_renew 18 = .ok (.aload_n 0, 1) := by decide +kernel
theorem dX5_renew_19 : decode cX5_renew 19 = .ok (.getfield 9, 3) := by decide +kernel
theorem dX5_renew_22 : decode cX5_renew 22 = .ok (.iload_n 3, 1) := by decide +kernel
theorem dX5_renew_23 : decode cX5_renew 23 = .ok (.iconst 0, 1) := by decide +kernel
theorem dX5_renew_24 : decode cX5_renew 24 = .ok (.iastore, 1) := by decide +kernel
theorem dX5_renew_25 : decode cX5_renew 25 = .ok (.iinc 3 1, 3) := by decide +kernel
theorem dX5_renew_28 : decode cX5_renew 28 = .ok (.goto (-16), 3) := by decide +kernel
theorem dX5_renew_31 : decode cX5_renew 31 = .ok (.return_, 1) := by decide +kernel
theorem dX5_faultAt_0 : decode cX5_faultAt 0 = .ok (.aload_n 0, 1) := by decide +kernel
theorem dX5_faultAt_1 : decode cX5_faultAt 1 = .ok (.getfield 15, 3) := by decide +kernel
theorem dX5_faultAt_4 : decode cX5_faultAt 4 = .ok (.iconst (-1), 1) := by decide +kernel
theorem dX5_faultAt_5 : decode cX5_faultAt 5 = .ok (.if_icmp .ne 5, 3) := by decide +kernel
theorem dX5_faultAt_8 : decode cX5_faultAt 8 = .ok (.iconst 1, 1) := by decide +kernel
theorem dX5_faultAt_9 : decode cX5_faultAt 9 = .ok (.ireturn, 1) := by decide +kernel
theorem dX5_faultAt_10 : decode cX5_faultAt 10 = .ok (.iload_n 1, 1) := by decide +kernel
theorem dX5_faultAt_11 : decode cX5_faultAt 11 = .ok (.iconst 0, 1) := by decide +kernel
theorem dX5_faultAt_12 : decode cX5_faultAt 12 = .ok (.aload_n 0, 1) := by decide +kernel
theorem dX5_faultAt_13 : decode cX5_faultAt 13 = .ok (.getfield 19, 3) := by decide +kernel
theorem dX5_faultAt_16 : decode cX5_faultAt 16 = .ok (.iconst 1, 1) := by decide +kernel
theorem dX5_faultAt_17 : decode cX5_faultAt 17 = .ok (.isub, 1) := by decide +kernel
theorem dX5_faultAt_18 : decode cX5_faultAt 18 = .ok (.invokestatic 22, 3) := by decide +kernel
theorem dX5_faultAt_21 : decode cX5_faultAt 21 = .ok (.ifCond .eq 7, 3) := by decide +kernel
theorem dX5_faultAt_24 : decode cX5_faultAt 24 = .ok (.iconst 0, 1) := by decide +kernel
theorem dX5_faultAt_25 : decode cX5_faultAt 25 = .ok (.goto 4, 3) := by decide +kernel
theorem dX5_faultAt_28 : decode cX5_faultAt 28 = .ok (.iconst 2, 1) := by decide +kernel
theorem dX5_faultAt_29 : decode cX5_faultAt 29 = .ok (.ireturn, 1) := by decide +kernel
theorem dX5_faultAtPair_0 : decode cX5_faultAtPair 0 = .ok (.aload_n 0, 1) := by decide +kernel
theorem dX5_faultAtPair_1 : decode cX5_faultAtPair 1 = .ok (.getfield 15, 3) := by decide +kernel
theorem dX5_faultAtPair_4 : decode cX5_faultAtPair 4 = .ok (.iconst (-1), 1) := by decide +kernel
theorem dX5_faultAtPair_5 : decode cX5_faultAtPair 5 = .ok (.if_icmp .eq 13, 3) := by decide +kernel
theorem dX5_faultAtPair_8 : decode cX5_faultAtPair 8 = .ok (.aload_n 0, 1) := by decide +kernel
theorem dX5_faultAtPair_9 : decode cX5_faultAtPair 9 = .ok (.getfield 15, 3) := by decide +kernel
theorem dX5_faultAtPair_12 : decode cX5_faultAtPair 12 = .ok (.iload_n 1, 1) := by decide +kernel
theorem dX5_faultAtPair_13 : decode cX5_faultAtPair 13 = .ok (.if_icmp .eq 5, 3) := by decide +kernel
theorem dX5_faultAtPair_16 : decode cX5_faultAtPair 16 = .ok (.iconst 3, 1) := by decide +kernel
theorem dX5_faultAtPair_17 : decode cX5_faultAtPair 17 = .ok (.ireturn, 1) := by decide +kernel
theorem dX5_faultAtPair_18 : decode cX5_faultAtPair 18 = .ok (.aload_n 0, 1) := by decide +kernel
theorem dX5_faultAtPair_19 : decode cX5_faultAtPair 19 = .ok (.iload_n 2, 1) := by decide +kernel
theorem dX5_faultAtPair_20 : decode cX5_faultAtPair 20 = .ok (.invokevirtual 26, 3) := by decide +kernel
theorem dX5_faultAtPair_23 : decode cX5_faultAtPair 23 = .ok (.istore_n 3, 1) := by decide +kernel
theorem dX5_faultAtPair_24 : decode cX5_faultAtPair 24 = .ok (.iload_n 3, 1) := by decide +kernel
theorem dX5_faultAtPair_25 : decode cX5_faultAtPair 25 = .ok (.ifCond .ne 13, 3) := by decide +kernel
theorem dX5_faultAtPair_28 : decode cX5_faultAtPair 28 = .ok (.aload_n 0, 1) := by decide +kernel
theorem dX5_faultAtPair_29 : decode cX5_faultAtPair 29 = .ok (.iload_n 2, 1) := by decide +kernel
theorem dX5_faultAtPair_30 : decode cX5_faultAtPair 30 = .ok (.iconst 1, 1) := by decide +kernel
theorem dX5_faultAtPair_31 : decode cX5_faultAtPair 31 = .ok (.iadd, 1) := by decide +kernel
theorem dX5_faultAtPair_32 : decode cX5_faultAtPair 32 = .ok (.invokevirtual 26, 3) := by decide +kernel
theorem dX5_faultAtPair_35 : decode cX5_faultAtPair 35 = .ok (.goto 4, 3) := by decide +kernel
theorem dX5_faultAtPair_38 : decode cX5_faultAtPair 38 = .ok (.iload_n 3, 1) := by decide +kernel
theorem dX5_faultAtPair_39 : decode cX5_faultAtPair 39 = .ok (.ireturn, 1) := by decide +kernel
theorem dX5_put_0 : decode cX5_put 0 = .ok (.aload_n 0, 1) := by decide +kernel
theorem dX5_put_1 : decode cX5_put 1 = .ok (.iload_n 1, 1) := by decide +kernel
theorem dX5_put_2 : decode cX5_put 2 = .ok (.invokevirtual 26, 3) := by decide +kernel
theorem dX5_put_5 : decode cX5_put 5 = .ok (.ifCond .ne 35, 3) := by decide +kernel
theorem dX5_put_8 : decode cX5_put 8 = .ok (.aload_n 0, 1) := by decide +kernel
theorem dX5_put_9 : decode cX5_put 9 = .ok (.getfield 9, 3) := by decide +kernel
theorem dX5_put_12 : decode cX5_put 12 = .ok (.iload_n 1, 1) := by decide +kernel
theorem dX5_put_13 : decode cX5_put 13 = .ok (.aload_n 0, 1) := by decide +kernel
theorem dX5_put_14 : decode cX5_put 14 = .ok (.getfield 15, 3) := by decide +kernel
theorem dX5_put_17 : decode cX5_put 17 = .ok (.ifCond .ne 8, 3) := by decide +kernel
theorem dX5_put_20 : decode cX5_put 20 = .ok (.iload_n 2, 1) := by decide +kernel
theorem dX5_put_21 : decode cX5_put 21 = .ok (.i2b, 1) := by decide +kernel
theorem dX5_put_22 : decode cX5_put 22 = .ok (.goto 17, 3) := by decide +kernel
theorem dX5_put_25 : decode cX5_put 25 = .ok (.aload_n 0, 1) := by decide +kernel
theorem dX5_put_26 : decode cX5_put 26 = .ok (.getfield 15, 3) := by decide +kernel
theorem dX5_put_29 : decode cX5_put 29 = .ok (.iconst 1, 1) := by decide +kernel
theorem dX5_put_30 : decode cX5_put 30 = .ok (.if_icmp .ne 8, 3) := by decide +kernel
theorem dX5_put_33 : decode cX5_put 33 = .ok (.iload_n 2, 1) := by decide +kernel
theorem dX5_put_34 : decode cX5_put 34 = .ok (.i2s, 1) := by decide +kernel
theorem dX5_put_35 : decode cX5_put 35 = .ok (.goto 4, 3) := by decide +kernel
theorem dX5_put_38 : decode cX5_put 38 = .ok (.iload_n 2, 1) := by decide +kernel
theorem dX5_put_39 : decode cX5_put 39 = .ok (.iastore, 1) := by decide +kernel
theorem dX5_put_40 : decode cX5_put 40 = .ok (.return_, 1) := by decide +kernel
theorem dX6_init_0 : decode cX6_init 0 = .ok (.aload_n 0, 1) := by decide +kernel
theorem dX6_init_1 : decode cX6_init 1 = .ok (.invokespecial 3, 3) := by decide +kernel
theorem dX6_init_4 : decode cX6_init 4 = .ok (.aload_n 0, 1) := by decide +kernel
theorem dX6_init_5 : decode cX6_init 5 = .ok (.bipush 8, 2) := by decide +kernel
theorem dX6_init_7 : decode cX6_init 7 = .ok (.newarray .int, 2) := by decide +kernel
theorem dX6_init_9 : decode cX6_init 9 = .ok (.putfield 9, 3) := by decide +kernel
theorem dX6_init_12 : decode cX6_init 12 = .ok (.aload_n 0, 1) := by decide +kernel
theorem dX6_init_13 : decode cX6_init 13 = .ok (.bipush 8, 2) := by decide +kernel
theorem dX6_init_15 : decode cX6_init 15 = .ok (.newarray .int, 2) := by decide +kernel
theorem dX6_init_17 : decode cX6_init 17 = .ok (.putfield 15, 3) := by decide +kernel
theorem dX6_init_20 : decode cX6_init 20 = .ok (.aload_n 0, 1) := by decide +kernel
theorem dX6_init_21 : decode cX6_init 21 = .ok (.bipush 8, 2) := by decide +kernel
theorem dX6_init_23 : decode cX6_init 23 = .ok (.newarray .int, 2) := by decide +kernel
theorem dX6_init_25 : decode cX6_init 25 = .ok (.putfield 18, 3) := by decide +kernel
theorem dX6_init_28 : decode cX6_init 28 = .ok (.aload_n 0, 1) := by decide +kernel
theorem dX6_init_29 : decode cX6_init 29 = .ok (.bipush 8, 2) := by decide +kernel
theorem dX6_init_31 : decode cX6_init 31 = .ok (.newarray .boolean, 2) := by decide +kernel
theorem dX6_init_33 : decode cX6_init 33 = .ok (.putfield 21, 3) := by decide +kernel
theorem dX6_init_36 : decode cX6_init 36 = .ok (.return_, 1) := by decide +kernel
theorem dX6_add_0 : decode cX6_add 0 = .ok (.aload_n 0, 1) := by decide +kernel
theorem dX6_add_1 : decode cX6_add 1 = .ok (.getfield 25, 3) := by decide +kernel
theorem dX6_add_4 : decode cX6_add 4 = .ok (.bipush 8, 2) := by decide +kernel
theorem dX6_add_6 : decode cX6_add 6 = .ok (.if_icmp .ge 54, 3) := by decide +kernel
theorem dX6_add_9 : decode cX6_add 9 = .ok (.aload_n 0, 1) := by decide +kernel
theorem dX6_add_10 : decode cX6_add 10 = .ok (.getfield 9, 3) := by decide +kernel
theorem dX6_add_13 : decode cX6_add 13 = .ok (.aload_n 0, 1) := by decide +kernel
theorem dX6_add_14 : decode cX6_add 14 = .ok (.getfield 25, 3) := by decide +kernel
theorem dX6_add_17 : decode cX6_add 17 = .ok (.iload_n 1, 1) := by decide +kernel
theorem dX6_add_18 : decode cX6_add 18 = .ok (.iastore, 1) := by decide +kernel
theorem dX6_add_19 : decode cX6_add 19 = .ok (.aload_n 0, 1) := by decide +kernel
theorem dX6_add_20 : decode cX6_add 20 = .ok (.getfield 15, 3) := by decide +kernel
theorem dX6_add_23 : decode cX6_add 23 = .ok (.aload_n 0, 1) := by decide +kernel
theorem dX6_add_24 : decode cX6_add 24 = .ok (.getfield 25, 3) := by decide +kernel
theorem dX6_add_27 : decode cX6_add 27 = .ok (.iload_n 2, 1) := by decide +kernel
theorem dX6_add_28 : decode cX6_add 28 = .ok (.iastore, 1) := by decide +kernel
theorem dX6_add_29 : decode cX6_add 29 = .ok (.aload_n 0, 1) := by decide +kernel
theorem dX6_add_30 : decode cX6_add 30 = .ok (.getfield 18, 3) := by decide +kernel
theorem dX6_add_33 : decode cX6_add 33 = .ok (.aload_n 0, 1) := by decide +kernel
theorem dX6_add_34 : decode cX6_add 34 = .ok (.getfield 25, 3) := by decide +kernel
theorem dX6_add_37 : decode cX6_add 37 = .ok (.iload_n 3, 1) := by decide +kernel
theorem dX6_add_38 : decode cX6_add 38 = .ok (.iastore, 1) := by decide +kernel
theorem dX6_add_39 : decode cX6_add 39 = .ok (.aload_n 0, 1) := by decide +kernel
theorem dX6_add_40 : decode cX6_add 40 = .ok (.getfield 21, 3) := by decide +kernel
theorem dX6_add_43 : decode cX6_add 43 = .ok (.aload_n 0, 1) := by decide +kernel
theorem dX6_add_44 : decode cX6_add 44 = .ok (.getfield 25, 3) := by decide +kernel
theorem dX6_add_47 : decode cX6_add 47 = .ok (.iload 4, 2) := by decide +kernel
theorem dX6_add_49 : decode cX6_add 49 = .ok (.bastore, 1) := by decide +kernel
theorem dX6_add_50 : decode cX6_add 50 = .ok (.aload_n 0, 1) := by decide +kernel
theorem dX6_add_51 : decode cX6_add 51 = .ok (.dup, 1) := by decide +kernel
theorem dX6_add_52 : decode cX6_add 52 = .ok (.getfield 25, 3) := by decide +kernel
theorem dX6_add_55 : decode cX6_add 55 = .ok (.iconst 1, 1) := by decide +kernel
theorem dX6_add_56 : decode cX6_add 56 = .ok (.iadd, 1) := by decide +kernel
theorem dX6_add_57 : decode cX6_add 57 = .ok (.putfield 25, 3) := by decide +kernel
theorem dX6_add_60 : decode cX6_add 60 = .ok (.return_, 1) := by decide +kernel
theorem dX6_copyFrom_0 : decode cX6_copyFrom 0 = .ok (.aload_n 0, 1) := by decide +kernel
theorem dX6_copyFrom_1 : decode cX6_copyFrom 1 = .ok (.aload_n 1, 1) := by decide +kernel
theorem dX6_copyFrom_2 : decode cX6_copyFrom 2 = .ok (.getfield 25, 3) := by decide +kernel
theorem dX6_copyFrom_5 : decode cX6_copyFrom 5 = .ok (.putfield 25, 3) := by decide +kernel
theorem dX6_copyFrom_8 : decode cX6_copyFrom 8 = .ok (.iconst 0, 1) := by decide +kernel
theorem dX6_copyFrom_9 : decode cX6_copyFrom 9 = .ok (.istore_n 2, 1) := by decide +kernel
theorem dX6_copyFrom_10 : decode cX6_copyFrom 10 = .ok (.iload_n 2, 1) := by decide +kernel
theorem dX6_copyFrom_11 : decode cX6_copyFrom 11 = .ok (.aload_n 0, 1) := by decide +kernel
theorem dX6_copyFrom_12 : decode cX6_copyFrom 12 = .ok (.getfield 25, 3) := by decide +kernel
theorem dX6_copyFrom_15 : decode cX6_copyFrom 15 = .ok (.if_icmp .ge 57, 3) := by decide +kernel
theorem dX6_copyFrom_18 : decode cX6_copyFrom 18 = .ok (.aload_n 0, 1) := by decide +kernel
theorem dX6_copyFrom_19 : decode cX6_copyFrom 19 = .ok (.getfield 9, 3) := by decide +kernel
theorem dX6_copyFrom_22 : decode cX6_copyFrom 22 = .ok (.iload_n 2, 1) := by decide +kernel
theorem dX6_copyFrom_23 : decode cX6_copyFrom 23 = .ok (.aload_n 1, 1) := by decide +kernel
theorem dX6_copyFrom_24 : decode cX6_copyFrom 24 = .ok (.getfield 9, 3) := by decide +kernel
theorem dX6_copyFrom_27 : decode cX6_copyFrom 27 = .ok (.iload_n 2, 1) := by decide +kernel
theorem dX6_copyFrom_28 : decode cX6_copyFrom 28 = .ok (.iaload, 1) := by decide +kernel
theorem dX6_copyFrom_29 : decode cX6_copyFrom 29 = .ok (.iastore, 1) := by decide +kernel
theorem dX6_copyFrom_30 : decode cX6_copyFrom 30 = .ok (.aload_n 0, 1) := by decide +kernel
theorem dX6_copyFrom_31 : decode cX6_copyFrom 31 = .ok (.getfield 15, 3) := by decide +kernel
theorem dX6_copyFrom_34 : decode cX6_copyFrom 34 = .ok (.iload_n 2, 1) := by decide +kernel
theorem dX6_copyFrom_35 : decode cX6_copyFrom 35 = .ok (.aload_n 1, 1) := by decide +kernel
theorem dX6_copyFrom_36 : decode cX6_copyFrom 36 = .ok (.getfield 15, 3) := by decide +kernel
theorem dX6_copyFrom_39 : decode cX6_copyFrom 39 = .ok (.iload_n 2, 1) := by decide +kernel
theorem dX6_copyFrom_40 : decode cX6_copyFrom 40 = .ok (.iaload, 1) := by decide +kernel
theorem dX6_copyFrom_41 : decode cX6_copyFrom 41 = .ok (.iastore, 1) := by decide +kernel
theorem dX6_copyFrom_42 : decode cX6_copyFrom 42 = .ok (.aload_n 0, 1) := by decide +kernel
theorem dX6_copyFrom_43 : decode cX6_copyFrom 43 = .ok (.getfield 18, 3) := by decide +kernel
theorem dX6_copyFrom_46 : decode cX6_copyFrom 46 = .ok (.iload_n 2, 1) := by decide +kernel
theorem dX6_copyFrom_47 : decode cX6_copyFrom 47 = .ok (.aload_n 1, 1) := by decide +kernel
theorem dX6_copyFrom_48 : decode cX6_copyFrom 48 = .ok (.getfield 18, 3) := by decide +kernel
theorem dX6_copyFrom_51 : decode cX6_copyFrom 51 = .ok (.iload_n 2, 1) := by decide +kernel
theorem dX6_copyFrom_52 : decode cX6_copyFrom 52 = .ok (.iaload, 1) := by decide +kernel
theorem dX6_copyFrom_53 : decode cX6_copyFrom 53 = .ok (.iastore, 1) := by decide +kernel
theorem dX6_copyFrom_54 : decode cX6_copyFrom 54 = .ok (.aload_n 0, 1) := by decide +kernel
theorem dX6_copyFrom_55 : decode cX6_copyFrom 55 = .ok (.getfield 21, 3) := by decide +kernel
theorem dX6_copyFrom_58 : decode cX6_copyFrom 58 = .ok (.iload_n 2, 1) := by decide +kernel
theorem dX6_copyFrom_59 : decode cX6_copyFrom 59 = .ok (.aload_n 1, 1) := by decide +kernel
theorem dX6_copyFrom_60 : decode cX6_copyFrom 60 = .ok (.getfield 21, 3) := by decide +kernel
theorem dX6_copyFrom_63 : decode cX6_copyFrom 63 = .ok (.iload_n 2, 1) := by decide +kernel
theorem dX6_copyFrom_64 : decode cX6_copyFrom 64 = .ok (.baload, 1) := by decide +kernel
theorem dX6_copyFrom_65 : decode cX6_copyFrom 65 = .ok (.bastore, 1) := by decide +kernel
theorem dX6_copyFrom_66 : decode cX6_copyFrom 66 = .ok (.iinc 2 1, 3) := by decide +kernel
theorem dX6_copyFrom_69 : decode cX6_copyFrom 69 = .ok (.goto (-59), 3) := by decide +kernel
theorem dX6_copyFrom_72 : decode cX6_copyFrom 72 = .ok (.return_, 1) := by decide +kernel
theorem dX6_holdFor_0 : decode cX6_holdFor 0 = .ok (.aload_n 0, 1) := by decide +kernel
theorem dX6_holdFor_1 : decode cX6_holdFor 1 = .ok (.invokevirtual 29, 3) := by decide +kernel
theorem dX6_holdFor_4 : decode cX6_holdFor 4 = .ok (.istore_n 2, 1) := by decide +kernel
theorem dX6_holdFor_5 : decode cX6_holdFor 5 = .ok (.iconst 0, 1) := by decide +kernel
theorem dX6_holdFor_6 : decode cX6_holdFor 6 = .ok (.istore_n 3, 1) := by decide +kernel
theorem dX6_holdFor_7 : decode cX6_holdFor 7 = .ok (.iload_n 3, 1) := by decide +kernel
theorem dX6_holdFor_8 : decode cX6_holdFor 8 = .ok (.iload_n 2, 1) := by decide +kernel
theorem dX6_holdFor_9 : decode cX6_holdFor 9 = .ok (.if_icmp .gt 29, 3) := by decide +kernel
theorem dX6_holdFor_12 : decode cX6_holdFor 12 = .ok (.aload_n 0, 1) := by decide +kernel
theorem dX6_holdFor_13 : decode cX6_holdFor 13 = .ok (.iload_n 3, 1) := by decide +kernel
theorem dX6_holdFor_14 : decode cX6_holdFor 14 = .ok (.aload_n 1, 1) := by decide +kernel
theorem dX6_holdFor_15 : decode cX6_holdFor 15 = .ok (.invokevirtual 33, 3) := by decide +kernel
theorem dX6_holdFor_18 : decode cX6_holdFor 18 = .ok (.ifCond .ne 5, 3) := by decide +kernel
theorem dX6_holdFor_21 : decode cX6_holdFor 21 = .ok (.iconst 0, 1) := by decide +kernel
theorem dX6_holdFor_22 : decode cX6_holdFor 22 = .ok (.ireturn, 1) := by decide +kernel
theorem dX6_holdFor_23 : decode cX6_holdFor 23 = .ok (.iload_n 3, 1) := by decide +kernel
theorem dX6_holdFor_24 : decode cX6_holdFor 24 = .ok (.iload_n 2, 1) := by decide +kernel
theorem dX6_holdFor_25 : decode cX6_holdFor 25 = .ok (.if_icmp .ge 7, 3) := by decide +kernel
theorem dX6_holdFor_28 : decode cX6_holdFor 28 = .ok (.aload_n 1, 1) := by decide +kernel
theorem dX6_holdFor_29 : decode cX6_holdFor 29 = .ok (.invokevirtual 37, 3) := by decide +kernel
theorem dX6_holdFor_32 : decode cX6_holdFor 32 = .ok (.iinc 3 1, 3) := by decide +kernel
theorem dX6_holdFor_35 : decode cX6_holdFor 35 = .ok (.goto (-28), 3) := by decide +kernel
theorem dX6_holdFor_38 : decode cX6_holdFor 38 = .ok (.iconst 1, 1) := by decide +kernel
theorem dX6_holdFor_39 : decode cX6_holdFor 39 = .ok (.ireturn, 1) := by decide +kernel
theorem dX6_lastStep_0 : decode cX6_lastStep 0 = .ok (.iconst (-1), 1) := by decide +kernel
theorem dX6_lastStep_1 : decode cX6_lastStep 1 = .ok (.istore_n 1, 1) := by decide +kernel
theorem dX6_lastStep_2 : decode cX6_lastStep 2 = .ok (.iconst 0, 1) := by decide +kernel
theorem dX6_lastStep_3 : decode cX6_lastStep 3 = .ok (.istore_n 2, 1) := by decide +kernel
theorem dX6_lastStep_4 : decode cX6_lastStep 4 = .ok (.iload_n 2, 1) := by decide +kernel
theorem dX6_lastStep_5 : decode cX6_lastStep 5 = .ok (.aload_n 0, 1) := by decide +kernel
theorem dX6_lastStep_6 : decode cX6_lastStep 6 = .ok (.getfield 25, 3) := by decide +kernel
theorem dX6_lastStep_9 : decode cX6_lastStep 9 = .ok (.if_icmp .ge 20, 3) := by decide +kernel
theorem dX6_lastStep_12 : decode cX6_lastStep 12 = .ok (.iload_n 1, 1) := by decide +kernel
theorem dX6_lastStep_13 : decode cX6_lastStep 13 = .ok (.aload_n 0, 1) := by decide +kernel
theorem dX6_lastStep_14 : decode cX6_lastStep 14 = .ok (.getfield 9, 3) := by decide +kernel
theorem dX6_lastStep_17 : decode cX6_lastStep 17 = .ok (.iload_n 2, 1) := by decide +kernel
theorem dX6_lastStep_18 : decode cX6_lastStep 18 = .ok (.iaload, 1) := by decide +kernel
theorem dX6_lastStep_19 : decode cX6_lastStep 19 = .ok (.invokestatic 42, 3) := by decide +kernel
theorem dX6_lastStep_22 : decode cX6_lastStep 22 = .ok (.istore_n 1, 1) := by decide +kernel
theorem dX6_lastStep_23 : decode cX6_lastStep 23 = .ok (.iinc 2 1, 3) := by decide +kernel
theorem dX6_lastStep_26 : decode cX6_lastStep 26 = .ok (.goto (-22), 3) := by decide +kernel
theorem dX6_lastStep_29 : decode cX6_lastStep 29 = .ok (.iload_n 1, 1) := by decide +kernel
theorem dX6_lastStep_30 : decode cX6_lastStep 30 = .ok (.ireturn, 1) := by decide +kernel
theorem dX6_holdAt_0 : decode cX6_holdAt 0 = .ok (.iconst 0, 1) := by decide +kernel
theorem dX6_holdAt_1 : decode cX6_holdAt 1 = .ok (.istore_n 3, 1) := by decide +kernel
theorem dX6_holdAt_2 : decode cX6_holdAt 2 = .ok (.iload_n 3, 1) := by decide +kernel
theorem dX6_holdAt_3 : decode cX6_holdAt 3 = .ok (.aload_n 0, 1) := by decide +kernel
theorem dX6_holdAt_4 : decode cX6_holdAt 4 = .ok (.getfield 25, 3) := by decide +kernel
theorem dX6_holdAt_7 : decode cX6_holdAt 7 = .ok (.if_icmp .ge 58, 3) := by decide +kernel
theorem dX6_holdAt_10 : decode cX6_holdAt 10 = .ok (.aload_n 0, 1) := by decide +kernel
theorem dX6_holdAt_11 : decode cX6_holdAt 11 = .ok (.getfield 9, 3) := by decide +kernel
theorem dX6_holdAt_14 : decode cX6_holdAt 14 = .ok (.iload_n 3, 1) := by decide +kernel
theorem dX6_holdAt_15 : decode cX6_holdAt 15 = .ok (.iaload, 1) := by decide +kernel
theorem dX6_holdAt_16 : decode cX6_holdAt 16 = .ok (.iload_n 1, 1) := by decide +kernel
theorem dX6_holdAt_17 : decode cX6_holdAt 17 = .ok (.if_icmp .ne 42, 3) := by decide +kernel
theorem dX6_holdAt_20 : decode cX6_holdAt 20 = .ok (.aload_n 2, 1) := by decide +kernel
theorem dX6_holdAt_21 : decode cX6_holdAt 21 = .ok (.getfield 48, 3) := by decide +kernel
theorem dX6_holdAt_24 : decode cX6_holdAt 24 = .ok (.aload_n 0, 1) := by decide +kernel
theorem dX6_holdAt_25 : decode cX6_holdAt 25 = .ok (.getfield 15, 3) := by decide +kernel
theorem dX6_holdAt_28 : decode cX6_holdAt 28 = .ok (.iload_n 3, 1) := by decide +kernel
theorem dX6_holdAt_29 : decode cX6_holdAt 29 = .ok (.iaload, 1) := by decide +kernel
theorem dX6_holdAt_30 : decode cX6_holdAt 30 = .ok (.aaload, 1) := by decide +kernel
theorem dX6_holdAt_31 : decode cX6_holdAt 31 = .ok (.getfield 51, 3) := by decide +kernel
theorem dX6_holdAt_34 : decode cX6_holdAt 34 = .ok (.aload_n 0, 1) := by decide +kernel
theorem dX6_holdAt_35 : decode cX6_holdAt 35 = .ok (.getfield 18, 3) := by decide +kernel
theorem dX6_holdAt_38 : decode cX6_holdAt 38 = .ok (.iload_n 3, 1) := by decide +kernel
theorem dX6_holdAt_39 : decode cX6_holdAt 39 = .ok (.iaload, 1) := by decide +kernel
theorem dX6_holdAt_40 : decode cX6_holdAt 40 = .ok (.if_icmp .ne 7, 3) := by decide +kernel
theorem dX6_holdAt_43 : decode cX6_holdAt 43 = .ok (.iconst 1, 1) := by decide +kernel
theorem dX6_holdAt_44 : decode cX6_holdAt 44 = .ok (.goto 4, 3) := by decide +kernel
theorem dX6_holdAt_47 : decode cX6_holdAt 47 = .ok (.iconst 0, 1) := by decide +kernel
theorem dX6_holdAt_48 : decode cX6_holdAt 48 = .ok (.aload_n 0, 1) := by decide +kernel
theorem dX6_holdAt_49 : decode cX6_holdAt 49 = .ok (.getfield 21, 3) := by decide +kernel
theorem dX6_holdAt_52 : decode cX6_holdAt 52 = .ok (.iload_n 3, 1) := by decide +kernel
theorem dX6_holdAt_53 : decode cX6_holdAt 53 = .ok (.baload, 1) := by decide +kernel
theorem dX6_holdAt_54 : decode cX6_holdAt 54 = .ok (.if_icmp .eq 5, 3) := by decide +kernel
theorem dX6_holdAt_57 : decode cX6_holdAt 57 = .ok (.iconst 0, 1) := by decide +kernel
theorem dX6_holdAt_58 : decode cX6_holdAt 58 = .ok (.ireturn, 1) := by decide +kernel
theorem dX6_holdAt_59 : decode cX6_holdAt 59 = .ok (.iinc 3 1, 3) := by decide +kernel
theorem dX6_holdAt_62 : decode cX6_holdAt 62 = .ok (.goto (-60), 3) := by decide +kernel
theorem dX6_holdAt_65 : decode cX6_holdAt 65 = .ok (.iconst 1, 1) := by decide +kernel
theorem dX6_holdAt_66 : decode cX6_holdAt 66 = .ok (.ireturn, 1) := by decide +kernel
theorem dX7_init_0 : decode cX7_init 0 = .ok (.aload_n 0, 1) := by decide +kernel
theorem dX7_init_1 : decode cX7_init 1 = .ok (.invokespecial 3, 3) := by decide +kernel
theorem dX7_init_4 : decode cX7_init 4 = .ok (.aload_n 0, 1) := by decide +kernel
theorem dX7_init_5 : decode cX7_init 5 = .ok (.sipush 320, 3) := by decide +kernel
theorem dX7_init_8 : decode cX7_init 8 = .ok (.newarray .byte, 2) := by decide +kernel
theorem dX7_init_10 : decode cX7_init 10 = .ok (.putfield 9, 3) := by decide +kernel
theorem dX7_init_13 : decode cX7_init 13 = .ok (.return_, 1) := by decide +kernel
theorem dX7_append_0 : decode cX7_append 0 = .ok (.bipush 56, 2) := by decide +kernel
theorem dX7_append_2 : decode cX7_append 2 = .ok (.istore_n 3, 1) := by decide +kernel
theorem dX7_append_3 : decode cX7_append 3 = .ok (.iload_n 3, 1) := by decide +kernel
theorem dX7_append_4 : decode cX7_append 4 = .ok (.ifCond .lt 43, 3) := by decide +kernel
theorem dX7_append_7 : decode cX7_append 7 = .ok (.aload_n 0, 1) := by decide +kernel
theorem dX7_append_8 : decode cX7_append 8 = .ok (.getfield 15, 3) := by decide +kernel
theorem dX7_append_11 : decode cX7_append 11 = .ok (.sipush 320, 3) := by decide +kernel
theorem dX7_append_14 : decode cX7_append 14 = .ok (.if_icmp .ge 33, 3) := by decide +kernel
theorem dX7_append_17 : decode cX7_append 17 = .ok (.aload_n 0, 1) := by decide +kernel
theorem dX7_append_18 : decode cX7_append 18 = .ok (.getfield 9, 3) := by decide +kernel
theorem dX7_append_21 : decode cX7_append 21 = .ok (.aload_n 0, 1) := by decide +kernel
theorem dX7_append_22 : decode cX7_append 22 = .ok (.getfield 15, 3) := by decide +kernel
theorem dX7_append_25 : decode cX7_append 25 = .ok (.lload_n 1, 1) := by decide +kernel
theorem dX7_append_26 : decode cX7_append 26 = .ok (.iload_n 3, 1) := by decide +kernel
theorem dX7_append_27 : decode cX7_append 27 = .ok (.lushr, 1) := by decide +kernel
theorem dX7_append_28 : decode cX7_append 28 = .ok (.l2i, 1) := by decide +kernel
theorem dX7_append_29 : decode cX7_append 29 = .ok (.i2b, 1) := by decide +kernel
theorem dX7_append_30 : decode cX7_append 30 = .ok (.bastore, 1) := by decide +kernel
theorem dX7_append_31 : decode cX7_append 31 = .ok (.aload_n 0, 1) := by decide +kernel
theorem dX7_append_32 : decode cX7_append 32 = .ok (.dup, 1) := by decide +kernel
theorem dX7_append_33 : decode cX7_append 33 = .ok (.getfield 15, 3) := by decide +kernel
theorem dX7_append_36 : decode cX7_append 36 = .ok (.iconst 1, 1) := by decide +kernel
theorem dX7_append_37 : decode cX7_append 37 = .ok (.iadd, 1) := by decide +kernel
theorem dX7_append_38 : decode cX7_append 38 = .ok (.putfield 15, 3) := by decide +kernel
theorem dX7_append_41 : decode cX7_append 41 = .ok (.iinc 3 (-8), 3) := by decide +kernel
theorem dX7_append_44 : decode cX7_append 44 = .ok (.goto (-41), 3) := by decide +kernel
theorem dX7_append_47 : decode cX7_append 47 = .ok (.return_, 1) := by decide +kernel
theorem dX8_init_0 : decode cX8_init 0 = .ok (.aload_n 0, 1) := by decide +kernel
theorem dX8_init_1 : decode cX8_init 1 = .ok (.invokespecial 3, 3) := by decide +kernel
theorem dX8_init_4 : decode cX8_init 4 = .ok (.aload_n 0, 1) := by decide +kernel
theorem dX8_init_5 : decode cX8_init 5 = .ok (.new 9, 3) := by decide +kernel
theorem dX8_init_8 : decode cX8_init 8 = .ok (.dup, 1) := by decide +kernel
theorem dX8_init_9 : decode cX8_init 9 = .ok (.invokespecial 11, 3) := by decide +kernel
theorem dX8_init_12 : decode cX8_init 12 = .ok (.putfield 12, 3) := by decide +kernel
theorem dX8_init_15 : decode cX8_init 15 = .ok (.aload_n 0, 1) := by decide +kernel
theorem dX8_init_16 : decode cX8_init 16 = .ok (.new 18, 3) := by decide +kernel
theorem dX8_init_19 : decode cX8_init 19 = .ok (.dup, 1) := by decide +kernel
theorem dX8_init_20 : decode cX8_init 20 = .ok (.invokespecial 20, 3) := by decide +kernel
theorem dX8_init_23 : decode cX8_init 23 = .ok (.putfield 21, 3) := by decide +kernel
theorem dX8_init_26 : decode cX8_init 26 = .ok (.return_, 1) := by decide +kernel
theorem dX8_tellAll_0 : decode cX8_tellAll 0 = .ok (.aload_n 0, 1) := by decide +kernel
theorem dX8_tellAll_1 : decode cX8_tellAll 1 = .ok (.getfield 21, 3) := by decide +kernel
theorem dX8_tellAll_4 : decode cX8_tellAll 4 = .ok (.invokevirtual 25, 3) := by decide +kernel
theorem dX8_tellAll_7 : decode cX8_tellAll 7 = .ok (.aload_n 0, 1) := by decide +kernel
theorem dX8_tellAll_8 : decode cX8_tellAll 8 = .ok (.iconst 0, 1) := by decide +kernel
theorem dX8_tellAll_9 : decode cX8_tellAll 9 = .ok (.putfield 28, 3) := by decide +kernel
theorem dX8_tellAll_12 : decode cX8_tellAll 12 = .ok (.aload_n 0, 1) := by decide +kernel
theorem dX8_tellAll_13 : decode cX8_tellAll 13 = .ok (.iconst 0, 1) := by decide +kernel
theorem dX8_tellAll_14 : decode cX8_tellAll 14 = .ok (.putfield 32, 3) := by decide +kernel
theorem dX8_tellAll_17 : decode cX8_tellAll 17 = .ok (.aload_n 0, 1) := by decide +kernel
theorem dX8_tellAll_18 : decode cX8_tellAll 18 = .ok (.iconst 0, 1) := by decide +kernel
theorem dX8_tellAll_19 : decode cX8_tellAll 19 = .ok (.putfield 35, 3) := by decide +kernel
theorem dX8_tellAll_22 : decode cX8_tellAll 22 = .ok (.aload_n 0, 1) := by decide +kernel
theorem dX8_tellAll_23 : decode cX8_tellAll 23 = .ok (.iconst 0, 1) := by decide +kernel
theorem dX8_tellAll_24 : decode cX8_tellAll 24 = .ok (.putfield 39, 3) := by decide +kernel
theorem dX8_tellAll_27 : decode cX8_tellAll 27 = .ok (.aload_n 0, 1) := by decide +kernel
theorem dX8_tellAll_28 : decode cX8_tellAll 28 = .ok (.iconst 0, 1) := by decide +kernel
theorem dX8_tellAll_29 : decode cX8_tellAll 29 = .ok (.putfield 42, 3) := by decide +kernel
theorem dX8_tellAll_32 : decode cX8_tellAll 32 = .ok (.iconst 0, 1) := by decide +kernel
theorem dX8_tellAll_33 : decode cX8_tellAll 33 = .ok (.istore_n 1, 1) := by decide +kernel
theorem dX8_tellAll_34 : decode cX8_tellAll 34 = .ok (.iload_n 1, 1) := by decide +kernel
theorem dX8_tellAll_35 : decode cX8_tellAll 35 = .ok (.sipush 320, 3) := by decide +kernel
theorem dX8_tellAll_38 : decode cX8_tellAll 38 = .ok (.if_icmp .ge 30, 3) := by decide +kernel
theorem dX8_tellAll_41 : decode cX8_tellAll 41 = .ok (.aload_n 0, 1) := by decide +kernel
theorem dX8_tellAll_42 : decode cX8_tellAll 42 = .ok (.invokevirtual 45, 3) := by decide +kernel
theorem dX8_tellAll_45 : decode cX8_tellAll 45 = .ok (.ifCond .eq 23, 3) := by decide +kernel
theorem dX8_tellAll_48 : decode cX8_tellAll 48 = .ok (.aload_n 0, 1) := by decide +kernel
theorem dX8_tellAll_49 : decode cX8_tellAll 49 = .ok (.getfield 49, 3) := by decide +kernel
theorem dX8_tellAll_52 : decode cX8_tellAll 52 = .ok (.ifCond .eq 16, 3) := by decide +kernel
theorem dX8_tellAll_55 : decode cX8_tellAll 55 = .ok (.aload_n 0, 1) := by decide +kernel
theorem dX8_tellAll_56 : decode cX8_tellAll 56 = .ok (.invokevirtual 52, 3) := by decide +kernel
theorem dX8_tellAll_59 : decode cX8_tellAll 59 = .ok (.ifCond .eq 9, 3) := by decide +kernel
theorem dX8_tellAll_62 : decode cX8_tellAll 62 = .ok (.iinc 1 1, 3) := by decide +kernel
theorem dX8_tellAll_65 : decode cX8_tellAll 65 = .ok (.goto (-31), 3) := by decide +kernel
theorem dX8_tellAll_68 : decode cX8_tellAll 68 = .ok (.aload_n 0, 1) := by decide +kernel
theorem dX8_tellAll_69 : decode cX8_tellAll 69 = .ok (.getfield 28, 3) := by decide +kernel
theorem dX8_tellAll_72 : decode cX8_tellAll 72 = .ok (.ifCond .ne 27, 3) := by decide +kernel
theorem dX8_tellAll_75 : decode cX8_tellAll 75 = .ok (.aload_n 0, 1) := by decide +kernel
theorem dX8_tellAll_76 : decode cX8_tellAll 76 = .ok (.getfield 21, 3) := by decide +kernel
theorem dX8_tellAll_79 : decode cX8_tellAll 79 = .ok (.invokevirtual 55, 3) := by decide +kernel
theorem dX8_tellAll_82 : decode cX8_tellAll 82 = .ok (.ifCond .ne 17, 3) := by decide +kernel
theorem dX8_tellAll_85 : decode cX8_tellAll 85 = .ok (.aload_n 0, 1) := by decide +kernel
theorem dX8_tellAll_86 : decode cX8_tellAll 86 = .ok (.bipush 6, 2) := by decide +kernel
theorem dX8_tellAll_88 : decode cX8_tellAll 88 = .ok (.aload_n 0, 1) := by decide +kernel
theorem dX8_tellAll_89 : decode cX8_tellAll 89 = .ok (.getfield 12, 3) := by decide +kernel
theorem dX8_tellAll_92 : decode cX8_tellAll 92 = .ok (.getfield 58, 3) := by decide +kernel
theorem dX8_tellAll_95 : decode cX8_tellAll 95 = .ok (.invokevirtual 61, 3) := by decide +kernel
theorem dX8_tellAll_98 : decode cX8_tellAll 98 = .ok (.pop, 1) := by decide +kernel
theorem dX8_tellAll_99 : decode cX8_tellAll 99 = .ok (.iload_n 1, 1) := by decide +kernel
theorem dX8_tellAll_100 : decode cX8_tellAll 100 = .ok (.ireturn, 1) := by decide +kernel
theorem dX8_refuse_0 : decode cX8_refuse 0 = .ok (.aload_n 0, 1) := by decide +kernel
theorem dX8_refuse_1 : decode cX8_refuse 1 = .ok (.iload_n 1, 1) := by decide +kernel
theorem dX8_refuse_2 : decode cX8_refuse 2 = .ok (.putfield 28, 3) := by decide +kernel
theorem dX8_refuse_5 : decode cX8_refuse 5 = .ok (.aload_n 0, 1) := by decide +kernel
theorem dX8_refuse_6 : decode cX8_refuse 6 = .ok (.iload_n 2, 1) := by decide +kernel
theorem dX8_refuse_7 : decode cX8_refuse 7 = .ok (.putfield 32, 3) := by decide +kernel
theorem dX8_refuse_10 : decode cX8_refuse 10 = .ok (.iconst 0, 1) := by decide +kernel
theorem dX8_refuse_11 : decode cX8_refuse 11 = .ok (.ireturn, 1) := by decide +kernel
theorem dX8_takeLine_0 : decode cX8_takeLine 0 = .ok (.aload_n 0, 1) := by decide +kernel
theorem dX8_takeLine_1 : decode cX8_takeLine 1 = .ok (.ldc 65, 2) := by decide +kernel
theorem dX8_takeLine_3 : decode cX8_takeLine 3 = .ok (.invokevirtual 67, 3) := by decide +kernel
theorem dX8_takeLine_6 : decode cX8_takeLine 6 = .ok (.ifCond .eq 8, 3) := by decide +kernel
theorem dX8_takeLine_9 : decode cX8_takeLine 9 = .ok (.aload_n 0, 1) := by decide +kernel
theorem dX8_takeLine_10 : decode cX8_takeLine 10 = .ok (.invokevirtual 71, 3) := by decide +kernel
theorem dX8_takeLine_13 : decode cX8_takeLine 13 = .ok (.ireturn, 1) := by decide +kernel
theorem dX8_takeLine_14 : decode cX8_takeLine 14 = .ok (.aload_n 0, 1) := by decide +kernel
theorem dX8_takeLine_15 : decode cX8_takeLine 15 = .ok (.ldc 74, 2) := by decide +kernel
theorem dX8_takeLine_17 : decode cX8_takeLine 17 = .ok (.invokevirtual 67, 3) := by decide +kernel
theorem dX8_takeLine_20 : decode cX8_takeLine 20 = .ok (.ifCond .eq 8, 3) := by decide +kernel
theorem dX8_takeLine_23 : decode cX8_takeLine 23 = .ok (.aload_n 0, 1) := by decide +kernel
theorem dX8_takeLine_24 : decode cX8_takeLine 24 = .ok (.invokevirtual 76, 3) := by decide +kernel
theorem dX8_takeLine_27 : decode cX8_takeLine 27 = .ok (.ireturn, 1) := by decide +kernel
theorem dX8_takeLine_28 : decode cX8_takeLine 28 = .ok (.aload_n 0, 1) := by decide +kernel
theorem dX8_takeLine_29 : decode cX8_takeLine 29 = .ok (.ldc 79, 2) := by decide +kernel
theorem dX8_takeLine_31 : decode cX8_takeLine 31 = .ok (.invokevirtual 67, 3) := by decide +kernel
theorem dX8_takeLine_34 : decode cX8_takeLine 34 = .ok (.ifCond .eq 8, 3) := by decide +kernel
theorem dX8_takeLine_37 : decode cX8_takeLine 37 = .ok (.aload_n 0, 1) := by decide +kernel
theorem dX8_takeLine_38 : decode cX8_takeLine 38 = .ok (.invokevirtual 81, 3) := by decide +kernel
theorem dX8_takeLine_41 : decode cX8_takeLine 41 = .ok (.ireturn, 1) := by decide +kernel
theorem dX8_takeLine_42 : decode cX8_takeLine 42 = .ok (.aload_n 0, 1) := by decide +kernel
theorem dX8_takeLine_43 : decode cX8_takeLine 43 = .ok (.ldc 84, 2) := by decide +kernel
theorem dX8_takeLine_45 : decode cX8_takeLine 45 = .ok (.invokevirtual 67, 3) := by decide +kernel
theorem dX8_takeLine_48 : decode cX8_takeLine 48 = .ok (.ifCond .eq 8, 3) := by decide +kernel
theorem dX8_takeLine_51 : decode cX8_takeLine 51 = .ok (.aload_n 0, 1) := by decide +kernel
theorem dX8_takeLine_52 : decode cX8_takeLine 52 = .ok (.invokevirtual 86, 3) := by decide +kernel
theorem dX8_takeLine_55 : decode cX8_takeLine 55 = .ok (.ireturn, 1) := by decide +kernel
theorem dX8_takeLine_56 : decode cX8_takeLine 56 = .ok (.aload_n 0, 1) := by decide +kernel
theorem dX8_takeLine_57 : decode cX8_takeLine 57 = .ok (.ldc 89, 2) := by decide +kernel
theorem dX8_takeLine_59 : decode cX8_takeLine 59 = .ok (.invokevirtual 67, 3) := by decide +kernel
theorem dX8_takeLine_62 : decode cX8_takeLine 62 = .ok (.ifCond .eq 8, 3) := by decide +kernel
theorem dX8_takeLine_65 : decode cX8_takeLine 65 = .ok (.aload_n 0, 1) := by decide +kernel
theorem dX8_takeLine_66 : decode cX8_takeLine 66 = .ok (.invokevirtual 91, 3) := by decide +kernel
theorem dX8_takeLine_69 : decode cX8_takeLine 69 = .ok (.ireturn, 1) := by decide +kernel
theorem dX8_takeLine_70 : decode cX8_takeLine 70 = .ok (.aload_n 0, 1) := by decide +kernel
theorem dX8_takeLine_71 : decode cX8_takeLine 71 = .ok (.iconst 2, 1) := by decide +kernel
theorem dX8_takeLine_72 : decode cX8_takeLine 72 = .ok (.aload_n 0, 1) := by decide +kernel
theorem dX8_takeLine_73 : decode cX8_takeLine 73 = .ok (.getfield 94, 3) := by decide +kernel
theorem dX8_takeLine_76 : decode cX8_takeLine 76 = .ok (.invokevirtual 61, 3) := by decide +kernel
theorem dX8_takeLine_79 : decode cX8_takeLine 79 = .ok (.ireturn, 1) := by decide +kernel
theorem dX8_takePlaces_0 : decode cX8_takePlaces 0 = .ok (.aload_n 0, 1) := by decide +kernel
theorem dX8_takePlaces_1 : decode cX8_takePlaces 1 = .ok (.getfield 35, 3) := by decide +kernel
theorem dX8_takePlaces_4 : decode cX8_takePlaces 4 = .ok (.ifCond .eq 13, 3) := by decide +kernel
theorem dX8_takePlaces_7 : decode cX8_takePlaces 7 = .ok (.aload_n 0, 1) := by decide +kernel
theorem dX8_takePlaces_8 : decode cX8_takePlaces 8 = .ok (.iconst 4, 1) := by decide +kernel
theorem dX8_takePlaces_9 : decode cX8_takePlaces 9 = .ok (.aload_n 0, 1) := by decide +kernel
theorem dX8_takePlaces_10 : decode cX8_takePlaces 10 = .ok (.getfield 94, 3) := by decide +kernel
theorem dX8_takePlaces_13 : decode cX8_takePlaces 13 = .ok (.invokevirtual 61, 3) := by decide +kernel
theorem dX8_takePlaces_16 : decode cX8_takePlaces 16 = .ok (.ireturn, 1) := by decide +kernel
theorem dX8_takePlaces_17 : decode cX8_takePlaces 17 = .ok (.aload_n 0, 1) := by decide +kernel
theorem dX8_takePlaces_18 : decode cX8_takePlaces 18 = .ok (.iconst 1, 1) := by decide +kernel
theorem dX8_takePlaces_19 : decode cX8_takePlaces 19 = .ok (.putfield 35, 3) := by decide +kernel
theorem dX8_takePlaces_22 : decode cX8_takePlaces 22 = .ok (.aload_n 0, 1) := by decide +kernel
theorem dX8_takePlaces_23 : decode cX8_takePlaces 23 = .ok (.iconst 2, 1) := by decide +kernel
theorem dX8_takePlaces_24 : decode cX8_takePlaces 24 = .ok (.bipush 8, 2) := by decide +kernel
theorem dX8_takePlaces_26 : decode cX8_takePlaces 26 = .ok (.invokevirtual 97, 3) := by decide +kernel
theorem dX8_takePlaces_29 : decode cX8_takePlaces 29 = .ok (.ifCond .ne 5, 3) := by decide +kernel
theorem dX8_takePlaces_32 : decode cX8_takePlaces 32 = .ok (.iconst 0, 1) := by decide +kernel
theorem dX8_takePlaces_33 : decode cX8_takePlaces 33 = .ok (.ireturn, 1) := by decide +kernel
theorem dX8_takePlaces_34 : decode cX8_takePlaces 34 = .ok (.aload_n 0, 1) := by decide +kernel
theorem dX8_takePlaces_35 : decode cX8_takePlaces 35 = .ok (.getfield 21, 3) := by decide +kernel
theorem dX8_takePlaces_38 : decode cX8_takePlaces 38 = .ok (.aload_n 0, 1) := by decide +kernel
theorem dX8_takePlaces_39 : decode cX8_takePlaces 39 = .ok (.getfield 100, 3) := by decide +kernel
theorem dX8_takePlaces_42 : decode cX8_takePlaces 42 = .ok (.putfield 103, 3) := by decide +kernel
theorem dX8_takePlaces_45 : decode cX8_takePlaces 45 = .ok (.aload_n 0, 1) := by decide +kernel
theorem dX8_takePlaces_46 : decode cX8_takePlaces 46 = .ok (.invokevirtual 45, 3) := by decide +kernel
theorem dX8_takePlaces_49 : decode cX8_takePlaces 49 = .ok (.ifCond .eq 14, 3) := by decide +kernel
theorem dX8_takePlaces_52 : decode cX8_takePlaces 52 = .ok (.aload_n 0, 1) := by decide +kernel
theorem dX8_takePlaces_53 : decode cX8_takePlaces 53 = .ok (.invokevirtual 105, 3) := by decide +kernel
theorem dX8_takePlaces_56 : decode cX8_takePlaces 56 = .ok (.ifCond .eq 7, 3) := by decide +kernel
theorem dX8_takePlaces_59 : decode cX8_takePlaces 59 = .ok (.iconst 1, 1) := by decide +kernel
theorem dX8_takePlaces_60 : decode cX8_takePlaces 60 = .ok (.goto 4, 3) := by decide +kernel
theorem dX8_takePlaces_63 : decode cX8_takePlaces 63 = .ok (.iconst 0, 1) := by decide +kernel
theorem dX8_takePlaces_64 : decode cX8_takePlaces 64 = .ok (.ireturn, 1) := by decide +kernel
theorem dX8_takeHole_0 : decode cX8_takeHole 0 = .ok (.aload_n 0, 1) := by decide +kernel
theorem dX8_takeHole_1 : decode cX8_takeHole 1 = .ok (.iconst 0, 1) := by decide +kernel
theorem dX8_takeHole_2 : decode cX8_takeHole 2 = .ok (.bipush 7, 2) := by decide +kernel
theorem dX8_takeHole_4 : decode cX8_takeHole 4 = .ok (.invokevirtual 97, 3) := by decide +kernel
theorem dX8_takeHole_7 : decode cX8_takeHole 7 = .ok (.ifCond .ne 5, 3) := by decide +kernel
theorem dX8_takeHole_10 : decode cX8_takeHole 10 = .ok (.iconst 0, 1) := by decide +kernel
theorem dX8_takeHole_11 : decode cX8_takeHole 11 = .ok (.ireturn, 1) := by decide +kernel
theorem dX8_takeHole_12 : decode cX8_takeHole 12 = .ok (.aload_n 0, 1) := by decide +kernel
theorem dX8_takeHole_13 : decode cX8_takeHole 13 = .ok (.getfield 100, 3) := by decide +kernel
theorem dX8_takeHole_16 : decode cX8_takeHole 16 = .ok (.istore_n 1, 1) := by decide +kernel
theorem dX8_takeHole_17 : decode cX8_takeHole 17 = .ok (.aload_n 0, 1) := by decide +kernel
theorem dX8_takeHole_18 : decode cX8_takeHole 18 = .ok (.getfield 21, 3) := by decide +kernel
theorem dX8_takeHole_21 : decode cX8_takeHole 21 = .ok (.getfield 108, 3) := by decide +kernel
theorem dX8_takeHole_24 : decode cX8_takeHole 24 = .ok (.iload_n 1, 1) := by decide +kernel
theorem dX8_takeHole_25 : decode cX8_takeHole 25 = .ok (.iaload, 1) := by decide +kernel
theorem dX8_takeHole_26 : decode cX8_takeHole 26 = .ok (.ifCond .eq 13, 3) := by decide +kernel
theorem dX8_takeHole_29 : decode cX8_takeHole 29 = .ok (.aload_n 0, 1) := by decide +kernel
theorem dX8_takeHole_30 : decode cX8_takeHole 30 = .ok (.iconst 4, 1) := by decide +kernel
theorem dX8_takeHole_31 : decode cX8_takeHole 31 = .ok (.aload_n 0, 1) := by decide +kernel
theorem dX8_takeHole_32 : decode cX8_takeHole 32 = .ok (.getfield 94, 3) := by decide +kernel
theorem dX8_takeHole_35 : decode cX8_takeHole 35 = .ok (.invokevirtual 61, 3) := by decide +kernel
theorem dX8_takeHole_38 : decode cX8_takeHole 38 = .ok (.ireturn, 1) := by decide +kernel
theorem dX8_takeHole_39 : decode cX8_takeHole 39 = .ok (.aload_n 0, 1) := by decide +kernel
theorem dX8_takeHole_40 : decode cX8_takeHole 40 = .ok (.iconst 1, 1) := by decide +kernel
theorem dX8_takeHole_41 : decode cX8_takeHole 41 = .ok (.bipush 9, 2) := by decide +kernel
theorem dX8_takeHole_43 : decode cX8_takeHole 43 = .ok (.invokevirtual 97, 3) := by decide +kernel
theorem dX8_takeHole_46 : decode cX8_takeHole 46 = .ok (.ifCond .ne 5, 3) := by decide +kernel
theorem dX8_takeHole_49 : decode cX8_takeHole 49 = .ok (.iconst 0, 1) := by decide +kernel
theorem dX8_takeHole_50 : decode cX8_takeHole 50 = .ok (.ireturn, 1) := by decide +kernel
theorem dX8_takeHole_51 : decode cX8_takeHole 51 = .ok (.aload_n 0, 1) := by decide +kernel
theorem dX8_takeHole_52 : decode cX8_takeHole 52 = .ok (.getfield 21, 3) := by decide +kernel
theorem dX8_takeHole_55 : decode cX8_takeHole 55 = .ok (.getfield 108, 3) := by decide +kernel
theorem dX8_takeHole_58 : decode cX8_takeHole 58 = .ok (.iload_n 1, 1) := by decide +kernel
theorem dX8_takeHole_59 : decode cX8_takeHole 59 = .ok (.aload_n 0, 1) := by decide +kernel
theorem dX8_takeHole_60 : decode cX8_takeHole 60 = .ok (.getfield 100, 3) := by decide +kernel
theorem dX8_takeHole_63 : decode cX8_takeHole 63 = .ok (.iastore, 1) := by decide +kernel
theorem dX8_takeHole_64 : decode cX8_takeHole 64 = .ok (.aload_n 0, 1) := by decide +kernel
theorem dX8_takeHole_65 : decode cX8_takeHole 65 = .ok (.invokevirtual 45, 3) := by decide +kernel
theorem dX8_takeHole_68 : decode cX8_takeHole 68 = .ok (.ifCond .eq 14, 3) := by decide +kernel
theorem dX8_takeHole_71 : decode cX8_takeHole 71 = .ok (.aload_n 0, 1) := by decide +kernel
theorem dX8_takeHole_72 : decode cX8_takeHole 72 = .ok (.invokevirtual 105, 3) := by decide +kernel
theorem dX8_takeHole_75 : decode cX8_takeHole 75 = .ok (.ifCond .eq 7, 3) := by decide +kernel
theorem dX8_takeHole_78 : decode cX8_takeHole 78 = .ok (.iconst 1, 1) := by decide +kernel
theorem dX8_takeHole_79 : decode cX8_takeHole 79 = .ok (.goto 4, 3) := by decide +kernel
theorem dX8_takeHole_82 : decode cX8_takeHole 82 = .ok (.iconst 0, 1) := by decide +kernel
theorem dX8_takeHole_83 : decode cX8_takeHole 83 = .ok (.ireturn, 1) := by decide +kernel
theorem dX8_takeCoin_0 : decode cX8_takeCoin 0 = .ok (.aload_n 0, 1) := by decide +kernel
theorem dX8_takeCoin_1 : decode cX8_takeCoin 1 = .ok (.getfield 21, 3) := by decide +kernel
theorem dX8_takeCoin_4 : decode cX8_takeCoin 4 = .ok (.getfield 112, 3) := by decide +kernel
theorem dX8_takeCoin_7 : decode cX8_takeCoin 7 = .ok (.istore_n 1, 1) := by decide +kernel
theorem dX8_takeCoin_8 : decode cX8_takeCoin 8 = .ok (.iload_n 1, 1) := by decide +kernel
theorem dX8_takeCoin_9 : decode cX8_takeCoin 9 = .ok (.bipush 6, 2) := by decide +kernel
theorem dX8_takeCoin_11 : decode cX8_takeCoin 11 = .ok (.if_icmp .lt 13, 3) := by decide +kernel
theorem dX8_takeCoin_14 : decode cX8_takeCoin 14 = .ok (.aload_n 0, 1) := by decide +kernel
theorem dX8_takeCoin_15 : decode cX8_takeCoin 15 = .ok (.iconst 5, 1) := by decide +kernel
theorem dX8_takeCoin_16 : decode cX8_takeCoin 16 = .ok (.aload_n 0, 1) := by decide +kernel
theorem dX8_takeCoin_17 : decode cX8_takeCoin 17 = .ok (.getfield 94, 3) := by decide +kernel
theorem dX8_takeCoin_20 : decode cX8_takeCoin 20 = .ok (.invokevirtual 61, 3) := by decide +kernel
theorem dX8_takeCoin_23 : decode cX8_takeCoin 23 = .ok (.ireturn, 1) := by decide +kernel
theorem dX8_takeCoin_24 : decode cX8_takeCoin 24 = .ok (.aload_n 0, 1) := by decide +kernel
theorem dX8_takeCoin_25 : decode cX8_takeCoin 25 = .ok (.iconst 1, 1) := by decide +kernel
theorem dX8_takeCoin_26 : decode cX8_takeCoin 26 = .ok (.bipush 9, 2) := by decide +kernel
theorem dX8_takeCoin_28 : decode cX8_takeCoin 28 = .ok (.invokevirtual 97, 3) := by decide +kernel
theorem dX8_takeCoin_31 : decode cX8_takeCoin 31 = .ok (.ifCond .ne 5, 3) := by decide +kernel
theorem dX8_takeCoin_34 : decode cX8_takeCoin 34 = .ok (.iconst 0, 1) := by decide +kernel
theorem dX8_takeCoin_35 : decode cX8_takeCoin 35 = .ok (.ireturn, 1) := by decide +kernel
theorem dX8_takeCoin_36 : decode cX8_takeCoin 36 = .ok (.aload_n 0, 1) := by decide +kernel
theorem dX8_takeCoin_37 : decode cX8_takeCoin 37 = .ok (.getfield 100, 3) := by decide +kernel
theorem dX8_takeCoin_40 : decode cX8_takeCoin 40 = .ok (.istore_n 2, 1) := by decide +kernel
theorem dX8_takeCoin_41 : decode cX8_takeCoin 41 = .ok (.aload_n 0, 1) := by decide +kernel
theorem dX8_takeCoin_42 : decode cX8_takeCoin 42 = .ok (.iconst 0, 1) := by decide +kernel
theorem dX8_takeCoin_43 : decode cX8_takeCoin 43 = .ok (.bipush 7, 2) := by decide +kernel
theorem dX8_takeCoin_45 : decode cX8_takeCoin 45 = .ok (.invokevirtual 97, 3) := by decide +kernel
theorem dX8_takeCoin_48 : decode cX8_takeCoin 48 = .ok (.ifCond .ne 5, 3) := by decide +kernel
theorem dX8_takeCoin_51 : decode cX8_takeCoin 51 = .ok (.iconst 0, 1) := by decide +kernel
theorem dX8_takeCoin_52 : decode cX8_takeCoin 52 = .ok (.ireturn, 1) := by decide +kernel
theorem dX8_takeCoin_53 : decode cX8_takeCoin 53 = .ok (.aload_n 0, 1) := by decide +kernel
theorem dX8_takeCoin_54 : decode cX8_takeCoin 54 = .ok (.getfield 21, 3) := by decide +kernel
theorem dX8_takeCoin_57 : decode cX8_takeCoin 57 = .ok (.iload_n 2, 1) := by decide +kernel
theorem dX8_takeCoin_58 : decode cX8_takeCoin 58 = .ok (.aload_n 0, 1) := by decide +kernel
theorem dX8_takeCoin_59 : decode cX8_takeCoin 59 = .ok (.getfield 100, 3) := by decide +kernel
theorem dX8_takeCoin_62 : decode cX8_takeCoin 62 = .ok (.invokevirtual 115, 3) := by decide +kernel
theorem dX8_takeCoin_65 : decode cX8_takeCoin 65 = .ok (.aload_n 0, 1) := by decide +kernel
theorem dX8_takeCoin_66 : decode cX8_takeCoin 66 = .ok (.invokevirtual 45, 3) := by decide +kernel
theorem dX8_takeCoin_69 : decode cX8_takeCoin 69 = .ok (.ifCond .ne 5, 3) := by decide +kernel
theorem dX8_takeCoin_72 : decode cX8_takeCoin 72 = .ok (.iconst 0, 1) := by decide +kernel
theorem dX8_takeCoin_73 : decode cX8_takeCoin 73 = .ok (.ireturn, 1) := by decide +kernel
theorem dX8_takeCoin_74 : decode cX8_takeCoin 74 = .ok (.aload_n 0, 1) := by decide +kernel
theorem dX8_takeCoin_75 : decode cX8_takeCoin 75 = .ok (.ldc 119, 2) := by decide +kernel
theorem dX8_takeCoin_77 : decode cX8_takeCoin 77 = .ok (.invokevirtual 67, 3) := by decide +kernel
theorem dX8_takeCoin_80 : decode cX8_takeCoin 80 = .ok (.ifCond .ne 8, 3) := by decide +kernel
theorem dX8_takeCoin_83 : decode cX8_takeCoin 83 = .ok (.aload_n 0, 1) := by decide +kernel
theorem dX8_takeCoin_84 : decode cX8_takeCoin 84 = .ok (.invokevirtual 105, 3) := by decide +kernel
theorem dX8_takeCoin_87 : decode cX8_takeCoin 87 = .ok (.ireturn, 1) := by decide +kernel
theorem dX8_takeCoin_88 : decode cX8_takeCoin 88 = .ok (.aload_n 0, 1) := by decide +kernel
theorem dX8_takeCoin_89 : decode cX8_takeCoin 89 = .ok (.getfield 21, 3) := by decide +kernel
theorem dX8_takeCoin_92 : decode cX8_takeCoin 92 = .ok (.getfield 121, 3) := by decide +kernel
theorem dX8_takeCoin_95 : decode cX8_takeCoin 95 = .ok (.iload_n 1, 1) := by decide +kernel
theorem dX8_takeCoin_96 : decode cX8_takeCoin 96 = .ok (.aaload, 1) := by decide +kernel
theorem dX8_takeCoin_97 : decode cX8_takeCoin 97 = .ok (.iconst 1, 1) := by decide +kernel
theorem dX8_takeCoin_98 : decode cX8_takeCoin 98 = .ok (.putfield 125, 3) := by decide +kernel
theorem dX8_takeCoin_101 : decode cX8_takeCoin 101 = .ok (.aload_n 0, 1) := by decide +kernel
theorem dX8_takeCoin_102 : decode cX8_takeCoin 102 = .ok (.invokevirtual 45, 3) := by decide +kernel
theorem dX8_takeCoin_105 : decode cX8_takeCoin 105 = .ok (.ifCond .eq 14, 3) := by decide +kernel
theorem dX8_takeCoin_108 : decode cX8_takeCoin 108 = .ok (.aload_n 0, 1) := by decide +kernel
theorem dX8_takeCoin_109 : decode cX8_takeCoin 109 = .ok (.invokevirtual 105, 3) := by decide +kernel
theorem dX8_takeCoin_112 : decode cX8_takeCoin 112 = .ok (.ifCond .eq 7, 3) := by decide +kernel
theorem dX8_takeCoin_115 : decode cX8_takeCoin 115 = .ok (.iconst 1, 1) := by decide +kernel
theorem dX8_takeCoin_116 : decode cX8_takeCoin 116 = .ok (.goto 4, 3) := by decide +kernel
theorem dX8_takeCoin_119 : decode cX8_takeCoin 119 = .ok (.iconst 0, 1) := by decide +kernel
theorem dX8_takeCoin_120 : decode cX8_takeCoin 120 = .ok (.ireturn, 1) := by decide +kernel
theorem dX8_takeCrab_0 : decode cX8_takeCrab 0 = .ok (.aload_n 0, 1) := by decide +kernel
theorem dX8_takeCrab_1 : decode cX8_takeCrab 1 = .ok (.getfield 21, 3) := by decide +kernel
theorem dX8_takeCrab_4 : decode cX8_takeCrab 4 = .ok (.getfield 130, 3) := by decide +kernel
theorem dX8_takeCrab_7 : decode cX8_takeCrab 7 = .ok (.iconst 4, 1) := by decide +kernel
theorem dX8_takeCrab_8 : decode cX8_takeCrab 8 = .ok (.if_icmp .lt 13, 3) := by decide +kernel
theorem dX8_takeCrab_11 : decode cX8_takeCrab 11 = .ok (.aload_n 0, 1) := by decide +kernel
theorem dX8_takeCrab_12 : decode cX8_takeCrab 12 = .ok (.iconst 5, 1) := by decide +kernel
theorem dX8_takeCrab_13 : decode cX8_takeCrab 13 = .ok (.aload_n 0, 1) := by decide +kernel
theorem dX8_takeCrab_14 : decode cX8_takeCrab 14 = .ok (.getfield 94, 3) := by decide +kernel
theorem dX8_takeCrab_17 : decode cX8_takeCrab 17 = .ok (.invokevirtual 61, 3) := by decide +kernel
theorem dX8_takeCrab_20 : decode cX8_takeCrab 20 = .ok (.ireturn, 1) := by decide +kernel
theorem dX8_takeCrab_21 : decode cX8_takeCrab 21 = .ok (.aload_n 0, 1) := by decide +kernel
theorem dX8_takeCrab_22 : decode cX8_takeCrab 22 = .ok (.invokevirtual 45, 3) := by decide +kernel
theorem dX8_takeCrab_25 : decode cX8_takeCrab 25 = .ok (.ifCond .ne 5, 3) := by decide +kernel
theorem dX8_takeCrab_28 : decode cX8_takeCrab 28 = .ok (.iconst 0, 1) := by decide +kernel
theorem dX8_takeCrab_29 : decode cX8_takeCrab 29 = .ok (.ireturn, 1) := by decide +kernel
theorem dX8_takeCrab_30 : decode cX8_takeCrab 30 = .ok (.aload_n 0, 1) := by decide +kernel
theorem dX8_takeCrab_31 : decode cX8_takeCrab 31 = .ok (.ldc 133, 2) := by decide +kernel
theorem dX8_takeCrab_33 : decode cX8_takeCrab 33 = .ok (.invokevirtual 67, 3) := by decide +kernel
theorem dX8_takeCrab_36 : decode cX8_takeCrab 36 = .ok (.istore_n 1, 1) := by decide +kernel
theorem dX8_takeCrab_37 : decode cX8_takeCrab 37 = .ok (.iload_n 1, 1) := by decide +kernel
theorem dX8_takeCrab_38 : decode cX8_takeCrab 38 = .ok (.ifCond .ne 22, 3) := by decide +kernel
theorem dX8_takeCrab_41 : decode cX8_takeCrab 41 = .ok (.aload_n 0, 1) := by decide +kernel
theorem dX8_takeCrab_42 : decode cX8_takeCrab 42 = .ok (.ldc 135, 2) := by decide +kernel
theorem dX8_takeCrab_44 : decode cX8_takeCrab 44 = .ok (.invokevirtual 67, 3) := by decide +kernel
theorem dX8_takeCrab_47 : decode cX8_takeCrab 47 = .ok (.ifCond .ne 13, 3) := by decide +kernel
theorem dX8_takeCrab_50 : decode cX8_takeCrab 50 = .ok (.aload_n 0, 1) := by decide +kernel
theorem dX8_takeCrab_51 : decode cX8_takeCrab 51 = .ok (.iconst 2, 1) := by decide +kernel
theorem dX8_takeCrab_52 : decode cX8_takeCrab 52 = .ok (.aload_n 0, 1) := by decide +kernel
theorem dX8_takeCrab_53 : decode cX8_takeCrab 53 = .ok (.getfield 94, 3) := by decide +kernel
theorem dX8_takeCrab_56 : decode cX8_takeCrab 56 = .ok (.invokevirtual 61, 3) := by decide +kernel
theorem dX8_takeCrab_59 : decode cX8_takeCrab 59 = .ok (.ireturn, 1) := by decide +kernel
theorem dX8_takeCrab_60 : decode cX8_takeCrab 60 = .ok (.aload_n 0, 1) := by decide +kernel
theorem dX8_takeCrab_61 : decode cX8_takeCrab 61 = .ok (.iconst 1, 1) := by decide +kernel
theorem dX8_takeCrab_62 : decode cX8_takeCrab 62 = .ok (.bipush 9, 2) := by decide +kernel
theorem dX8_takeCrab_64 : decode cX8_takeCrab 64 = .ok (.invokevirtual 97, 3) := by decide +kernel
theorem dX8_takeCrab_67 : decode cX8_takeCrab 67 = .ok (.ifCond .ne 5, 3) := by decide +kernel
theorem dX8_takeCrab_70 : decode cX8_takeCrab 70 = .ok (.iconst 0, 1) := by decide +kernel
theorem dX8_takeCrab_71 : decode cX8_takeCrab 71 = .ok (.ireturn, 1) := by decide +kernel
theorem dX8_takeCrab_72 : decode cX8_takeCrab 72 = .ok (.aload_n 0, 1) := by decide +kernel
theorem dX8_takeCrab_73 : decode cX8_takeCrab 73 = .ok (.getfield 100, 3) := by decide +kernel
theorem dX8_takeCrab_76 : decode cX8_takeCrab 76 = .ok (.istore_n 2, 1) := by decide +kernel
theorem dX8_takeCrab_77 : decode cX8_takeCrab 77 = .ok (.aload_n 0, 1) := by decide +kernel
theorem dX8_takeCrab_78 : decode cX8_takeCrab 78 = .ok (.iconst 1, 1) := by decide +kernel
theorem dX8_takeCrab_79 : decode cX8_takeCrab 79 = .ok (.bipush 9, 2) := by decide +kernel
theorem dX8_takeCrab_81 : decode cX8_takeCrab 81 = .ok (.invokevirtual 97, 3) := by decide +kernel
theorem dX8_takeCrab_84 : decode cX8_takeCrab 84 = .ok (.ifCond .ne 5, 3) := by decide +kernel
theorem dX8_takeCrab_87 : decode cX8_takeCrab 87 = .ok (.iconst 0, 1) := by decide +kernel
theorem dX8_takeCrab_88 : decode cX8_takeCrab 88 = .ok (.ireturn, 1) := by decide +kernel
theorem dX8_takeCrab_89 : decode cX8_takeCrab 89 = .ok (.aload_n 0, 1) := by decide +kernel
theorem dX8_takeCrab_90 : decode cX8_takeCrab 90 = .ok (.getfield 100, 3) := by decide +kernel
theorem dX8_takeCrab_93 : decode cX8_takeCrab 93 = .ok (.istore_n 3, 1) := by decide +kernel
theorem dX8_takeCrab_94 : decode cX8_takeCrab 94 = .ok (.aload_n 0, 1) := by decide +kernel
theorem dX8_takeCrab_95 : decode cX8_takeCrab 95 = .ok (.iconst 0, 1) := by decide +kernel
theorem dX8_takeCrab_96 : decode cX8_takeCrab 96 = .ok (.bipush 7, 2) := by decide +kernel
theorem dX8_takeCrab_98 : decode cX8_takeCrab 98 = .ok (.invokevirtual 97, 3) := by decide +kernel
theorem dX8_takeCrab_101 : decode cX8_takeCrab 101 = .ok (.ifCond .ne 5, 3) := by decide +kernel
theorem dX8_takeCrab_104 : decode cX8_takeCrab 104 = .ok (.iconst 0, 1) := by decide +kernel
theorem dX8_takeCrab_105 : decode cX8_takeCrab 105 = .ok (.ireturn, 1) := by decide +kernel
theorem dX8_takeCrab_106 : decode cX8_takeCrab 106 = .ok (.aload_n 0, 1) := by decide +kernel
theorem dX8_takeCrab_107 : decode cX8_takeCrab 107 = .ok (.getfield 21, 3) := by decide +kernel
theorem dX8_takeCrab_110 : decode cX8_takeCrab 110 = .ok (.iload_n 1, 1) := by decide +kernel
theorem dX8_takeCrab_111 : decode cX8_takeCrab 111 = .ok (.invokestatic 137, 3) := by decide +kernel
theorem dX8_takeCrab_114 : decode cX8_takeCrab 114 = .ok (.iload_n 2, 1) := by decide +kernel
theorem dX8_takeCrab_115 : decode cX8_takeCrab 115 = .ok (.iload_n 3, 1) := by decide +kernel
theorem dX8_takeCrab_116 : decode cX8_takeCrab 116 = .ok (.aload_n 0, 1) := by decide +kernel
theorem dX8_takeCrab_117 : decode cX8_takeCrab 117 = .ok (.getfield 100, 3) := by decide +kernel
theorem dX8_takeCrab_120 : decode cX8_takeCrab 120 = .ok (.invokevirtual 141, 3) := by decide +kernel
theorem dX8_takeCrab_123 : decode cX8_takeCrab 123 = .ok (.aload_n 0, 1) := by decide +kernel
theorem dX8_takeCrab_124 : decode cX8_takeCrab 124 = .ok (.invokevirtual 45, 3) := by decide +kernel
theorem dX8_takeCrab_127 : decode cX8_takeCrab 127 = .ok (.ifCond .eq 14, 3) := by decide +kernel
theorem dX8_takeCrab_130 : decode cX8_takeCrab 130 = .ok (.aload_n 0, 1) := by decide +kernel
theorem dX8_takeCrab_131 : decode cX8_takeCrab 131 = .ok (.invokevirtual 105, 3) := by decide +kernel
theorem dX8_takeCrab_134 : decode cX8_takeCrab 134 = .ok (.ifCond .eq 7, 3) := by decide +kernel
theorem dX8_takeCrab_137 : decode cX8_takeCrab 137 = .ok (.iconst 1, 1) := by decide +kernel
theorem dX8_takeCrab_138 : decode cX8_takeCrab 138 = .ok (.goto 4, 3) := by decide +kernel
theorem dX8_takeCrab_141 : decode cX8_takeCrab 141 = .ok (.iconst 0, 1) := by decide +kernel
theorem dX8_takeCrab_142 : decode cX8_takeCrab 142 = .ok (.ireturn, 1) := by decide +kernel
theorem dX8_takeTide_0 : decode cX8_takeTide 0 = .ok (.aload_n 0, 1) := by decide +kernel
theorem dX8_takeTide_1 : decode cX8_takeTide 1 = .ok (.getfield 39, 3) := by decide +kernel
theorem dX8_takeTide_4 : decode cX8_takeTide 4 = .ok (.ifCond .eq 13, 3) := by decide +kernel
theorem dX8_takeTide_7 : decode cX8_takeTide 7 = .ok (.aload_n 0, 1) := by decide +kernel
theorem dX8_takeTide_8 : decode cX8_takeTide 8 = .ok (.iconst 4, 1) := by decide +kernel
theorem dX8_takeTide_9 : decode cX8_takeTide 9 = .ok (.aload_n 0, 1) := by decide +kernel
theorem dX8_takeTide_10 : decode cX8_takeTide 10 = .ok (.getfield 94, 3) := by decide +kernel
theorem dX8_takeTide_13 : decode cX8_takeTide 13 = .ok (.invokevirtual 61, 3) := by decide +kernel
theorem dX8_takeTide_16 : decode cX8_takeTide 16 = .ok (.ireturn, 1) := by decide +kernel
theorem dX8_takeTide_17 : decode cX8_takeTide 17 = .ok (.aload_n 0, 1) := by decide +kernel
theorem dX8_takeTide_18 : decode cX8_takeTide 18 = .ok (.iconst 1, 1) := by decide +kernel
theorem dX8_takeTide_19 : decode cX8_takeTide 19 = .ok (.putfield 39, 3) := by decide +kernel
theorem dX8_takeTide_22 : decode cX8_takeTide 22 = .ok (.aload_n 0, 1) := by decide +kernel
theorem dX8_takeTide_23 : decode cX8_takeTide 23 = .ok (.iconst 1, 1) := by decide +kernel
theorem dX8_takeTide_24 : decode cX8_takeTide 24 = .ok (.bipush 9, 2) := by decide +kernel
theorem dX8_takeTide_26 : decode cX8_takeTide 26 = .ok (.invokevirtual 97, 3) := by decide +kernel
theorem dX8_takeTide_29 : decode cX8_takeTide 29 = .ok (.ifCond .ne 5, 3) := by decide +kernel
theorem dX8_takeTide_32 : decode cX8_takeTide 32 = .ok (.iconst 0, 1) := by decide +kernel
theorem dX8_takeTide_33 : decode cX8_takeTide 33 = .ok (.ireturn, 1) := by decide +kernel
theorem dX8_takeTide_34 : decode cX8_takeTide 34 = .ok (.aload_n 0, 1) := by decide +kernel
theorem dX8_takeTide_35 : decode cX8_takeTide 35 = .ok (.getfield 21, 3) := by decide +kernel
theorem dX8_takeTide_38 : decode cX8_takeTide 38 = .ok (.aload_n 0, 1) := by decide +kernel
theorem dX8_takeTide_39 : decode cX8_takeTide 39 = .ok (.getfield 100, 3) := by decide +kernel
theorem dX8_takeTide_42 : decode cX8_takeTide 42 = .ok (.putfield 145, 3) := by decide +kernel
theorem dX8_takeTide_45 : decode cX8_takeTide 45 = .ok (.aload_n 0, 1) := by decide +kernel
theorem dX8_takeTide_46 : decode cX8_takeTide 46 = .ok (.iconst 0, 1) := by decide +kernel
theorem dX8_takeTide_47 : decode cX8_takeTide 47 = .ok (.bipush 8, 2) := by decide +kernel
theorem dX8_takeTide_49 : decode cX8_takeTide 49 = .ok (.invokevirtual 97, 3) := by decide +kernel
theorem dX8_takeTide_52 : decode cX8_takeTide 52 = .ok (.ifCond .ne 5, 3) := by decide +kernel
theorem dX8_takeTide_55 : decode cX8_takeTide 55 = .ok (.iconst 0, 1) := by decide +kernel
theorem dX8_takeTide_56 : decode cX8_takeTide 56 = .ok (.ireturn, 1) := by decide +kernel
theorem dX8_takeTide_57 : decode cX8_takeTide 57 = .ok (.aload_n 0, 1) := by decide +kernel
theorem dX8_takeTide_58 : decode cX8_takeTide 58 = .ok (.getfield 21, 3) := by decide +kernel
theorem dX8_takeTide_61 : decode cX8_takeTide 61 = .ok (.aload_n 0, 1) := by decide +kernel
theorem dX8_takeTide_62 : decode cX8_takeTide 62 = .ok (.getfield 100, 3) := by decide +kernel
theorem dX8_takeTide_65 : decode cX8_takeTide 65 = .ok (.putfield 147, 3) := by decide +kernel
theorem dX8_takeTide_68 : decode cX8_takeTide 68 = .ok (.aload_n 0, 1) := by decide +kernel
theorem dX8_takeTide_69 : decode cX8_takeTide 69 = .ok (.invokevirtual 45, 3) := by decide +kernel
theorem dX8_takeTide_72 : decode cX8_takeTide 72 = .ok (.ifCond .eq 14, 3) := by decide +kernel
theorem dX8_takeTide_75 : decode cX8_takeTide 75 = .ok (.aload_n 0, 1) := by decide +kernel
theorem dX8_takeTide_76 : decode cX8_takeTide 76 = .ok (.invokevirtual 105, 3) := by decide +kernel
theorem dX8_takeTide_79 : decode cX8_takeTide 79 = .ok (.ifCond .eq 7, 3) := by decide +kernel
theorem dX8_takeTide_82 : decode cX8_takeTide 82 = .ok (.iconst 1, 1) := by decide +kernel
theorem dX8_takeTide_83 : decode cX8_takeTide 83 = .ok (.goto 4, 3) := by decide +kernel
theorem dX8_takeTide_86 : decode cX8_takeTide 86 = .ok (.iconst 0, 1) := by decide +kernel
theorem dX8_takeTide_87 : decode cX8_takeTide 87 = .ok (.ireturn, 1) := by decide +kernel
theorem dX8_endsLine_0 : decode cX8_endsLine 0 = .ok (.aload_n 0, 1) := by decide +kernel
theorem dX8_endsLine_1 : decode cX8_endsLine 1 = .ok (.getfield 49, 3) := by decide +kernel
theorem dX8_endsLine_4 : decode cX8_endsLine 4 = .ok (.iconst 3, 1) := by decide +kernel
theorem dX8_endsLine_5 : decode cX8_endsLine 5 = .ok (.if_icmp .eq 15, 3) := by decide +kernel
theorem dX8_endsLine_8 : decode cX8_endsLine 8 = .ok (.aload_n 0, 1) := by decide +kernel
theorem dX8_endsLine_9 : decode cX8_endsLine 9 = .ok (.iconst 2, 1) := by decide +kernel
theorem dX8_endsLine_10 : decode cX8_endsLine 10 = .ok (.aload_n 0, 1) := by decide +kernel
theorem dX8_endsLine_11 : decode cX8_endsLine 11 = .ok (.getfield 94, 3) := by decide +kernel
theorem dX8_endsLine_14 : decode cX8_endsLine 14 = .ok (.invokevirtual 61, 3) := by decide +kernel
theorem dX8_endsLine_17 : decode cX8_endsLine 17 = .ok (.ifCond .eq 7, 3) := by decide +kernel
theorem dX8_endsLine_20 : decode cX8_endsLine 20 = .ok (.iconst 1, 1) := by decide +kernel
theorem dX8_endsLine_21 : decode cX8_endsLine 21 = .ok (.goto 4, 3) := by decide +kernel
theorem dX8_endsLine_24 : decode cX8_endsLine 24 = .ok (.iconst 0, 1) := by decide +kernel
theorem dX8_endsLine_25 : decode cX8_endsLine 25 = .ok (.ireturn, 1) := by decide +kernel
theorem dX8_takeNumber_0 : decode cX8_takeNumber 0 = .ok (.aload_n 0, 1) := by decide +kernel
theorem dX8_takeNumber_1 : decode cX8_takeNumber 1 = .ok (.invokevirtual 45, 3) := by decide +kernel
theorem dX8_takeNumber_4 : decode cX8_takeNumber 4 = .ok (.ifCond .ne 5, 3) := by decide +kernel
theorem dX8_takeNumber_7 : decode cX8_takeNumber 7 = .ok (.iconst 0, 1) := by decide +kernel
theorem dX8_takeNumber_8 : decode cX8_takeNumber 8 = .ok (.ireturn, 1) := by decide +kernel
theorem dX8_takeNumber_9 : decode cX8_takeNumber 9 = .ok (.aload_n 0, 1) := by decide +kernel
theorem dX8_takeNumber_10 : decode cX8_takeNumber 10 = .ok (.getfield 49, 3) := by decide +kernel
theorem dX8_takeNumber_13 : decode cX8_takeNumber 13 = .ok (.iconst 2, 1) := by decide +kernel
theorem dX8_takeNumber_14 : decode cX8_takeNumber 14 = .ok (.if_icmp .eq 13, 3) := by decide +kernel
theorem dX8_takeNumber_17 : decode cX8_takeNumber 17 = .ok (.aload_n 0, 1) := by decide +kernel
theorem dX8_takeNumber_18 : decode cX8_takeNumber 18 = .ok (.iconst 2, 1) := by decide +kernel
theorem dX8_takeNumber_19 : decode cX8_takeNumber 19 = .ok (.aload_n 0, 1) := by decide +kernel
theorem dX8_takeNumber_20 : decode cX8_takeNumber 20 = .ok (.getfield 94, 3) := by decide +kernel
theorem dX8_takeNumber_23 : decode cX8_takeNumber 23 = .ok (.invokevirtual 61, 3) := by decide +kernel
theorem dX8_takeNumber_26 : decode cX8_takeNumber 26 = .ok (.ireturn, 1) := by decide +kernel
theorem dX8_takeNumber_27 : decode cX8_takeNumber 27 = .ok (.aload_n 0, 1) := by decide +kernel
theorem dX8_takeNumber_28 : decode cX8_takeNumber 28 = .ok (.getfield 100, 3) := by decide +kernel
theorem dX8_takeNumber_31 : decode cX8_takeNumber 31 = .ok (.iload_n 1, 1) := by decide +kernel
theorem dX8_takeNumber_32 : decode cX8_takeNumber 32 = .ok (.iload_n 2, 1) := by decide +kernel
theorem dX8_takeNumber_33 : decode cX8_takeNumber 33 = .ok (.invokestatic 150, 3) := by decide +kernel
theorem dX8_takeNumber_36 : decode cX8_takeNumber 36 = .ok (.ifCond .ne 15, 3) := by decide +kernel
theorem dX8_takeNumber_39 : decode cX8_takeNumber 39 = .ok (.aload_n 0, 1) := by decide +kernel
theorem dX8_takeNumber_40 : decode cX8_takeNumber 40 = .ok (.iconst 3, 1) := by decide +kernel
theorem dX8_takeNumber_41 : decode cX8_takeNumber 41 = .ok (.aload_n 0, 1) := by decide +kernel
theorem dX8_takeNumber_42 : decode cX8_takeNumber 42 = .ok (.getfield 94, 3) := by decide +kernel
theorem dX8_takeNumber_45 : decode cX8_takeNumber 45 = .ok (.invokevirtual 61, 3) := by decide +kernel
theorem dX8_takeNumber_48 : decode cX8_takeNumber 48 = .ok (.ifCond .eq 7, 3) := by decide +kernel
theorem dX8_takeNumber_51 : decode cX8_takeNumber 51 = .ok (.iconst 1, 1) := by decide +kernel
theorem dX8_takeNumber_52 : decode cX8_takeNumber 52 = .ok (.goto 4, 3) := by decide +kernel
theorem dX8_takeNumber_55 : decode cX8_takeNumber 55 = .ok (.iconst 0, 1) := by decide +kernel
theorem dX8_takeNumber_56 : decode cX8_takeNumber 56 = .ok (.ireturn, 1) := by decide +kernel
theorem dX8_isName_0 : decode cX8_isName 0 = .ok (.aload_n 0, 1) := by decide +kernel
theorem dX8_isName_1 : decode cX8_isName 1 = .ok (.getfield 49, 3) := by decide +kernel
theorem dX8_isName_4 : decode cX8_isName 4 = .ok (.iconst 1, 1) := by decide +kernel
theorem dX8_isName_5 : decode cX8_isName 5 = .ok (.if_icmp .ne 19, 3) := by decide +kernel
theorem dX8_isName_8 : decode cX8_isName 8 = .ok (.aload_n 0, 1) := by decide +kernel
theorem dX8_isName_9 : decode cX8_isName 9 = .ok (.getfield 42, 3) := by decide +kernel
theorem dX8_isName_12 : decode cX8_isName 12 = .ok (.aload_n 0, 1) := by decide +kernel
theorem dX8_isName_13 : decode cX8_isName 13 = .ok (.getfield 94, 3) := by decide +kernel
theorem dX8_isName_16 : decode cX8_isName 16 = .ok (.isub, 1) := by decide +kernel
theorem dX8_isName_17 : decode cX8_isName 17 = .ok (.aload_n 1, 1) := by decide +kernel
theorem dX8_isName_18 : decode cX8_isName 18 = .ok (.invokevirtual 154, 3) := by decide +kernel
theorem dX8_isName_21 : decode cX8_isName 21 = .ok (.if_icmp .eq 5, 3) := by decide +kernel
theorem dX8_isName_24 : decode cX8_isName 24 = .ok (.iconst 0, 1) := by decide +kernel
theorem dX8_isName_25 : decode cX8_isName 25 = .ok (.ireturn, 1) := by decide +kernel
theorem dX8_isName_26 : decode cX8_isName 26 = .ok (.iconst 0, 1) := by decide +kernel
theorem dX8_isName_27 : decode cX8_isName 27 = .ok (.istore_n 2, 1) := by decide +kernel
theorem dX8_isName_28 : decode cX8_isName 28 = .ok (.iload_n 2, 1) := by decide +kernel
theorem dX8_isName_29 : decode cX8_isName 29 = .ok (.aload_n 1, 1) := by decide +kernel
theorem dX8_isName_30 : decode cX8_isName 30 = .ok (.invokevirtual 154, 3) := by decide +kernel
theorem dX8_isName_33 : decode cX8_isName 33 = .ok (.if_icmp .ge 33, 3) := by decide +kernel
theorem dX8_isName_36 : decode cX8_isName 36 = .ok (.aload_n 0, 1) := by decide +kernel
theorem dX8_isName_37 : decode cX8_isName 37 = .ok (.getfield 12, 3) := by decide +kernel
theorem dX8_isName_40 : decode cX8_isName 40 = .ok (.getfield 159, 3) := by decide +kernel
theorem dX8_isName_43 : decode cX8_isName 43 = .ok (.aload_n 0, 1) := by decide +kernel
theorem dX8_isName_44 : decode cX8_isName 44 = .ok (.getfield 94, 3) := by decide +kernel
theorem dX8_isName_47 : decode cX8_isName 47 = .ok (.iload_n 2, 1) := by decide +kernel
theorem dX8_isName_48 : decode cX8_isName 48 = .ok (.iadd, 1) := by decide +kernel
theorem dX8_isName_49 : decode cX8_isName 49 = .ok (.baload, 1) := by decide +kernel
theorem dX8_isName_50 : decode cX8_isName 50 = .ok (.aload_n 1, 1) := by decide +kernel
theorem dX8_isName_51 : decode cX8_isName 51 = .ok (.iload_n 2, 1) := by decide +kernel
theorem dX8_isName_52 : decode cX8_isName 52 = .ok (.invokevirtual 163, 3) := by decide +kernel
theorem dX8_isName_55 : decode cX8_isName 55 = .ok (.if_icmp .eq 5, 3) := by decide +kernel
theorem dX8_isName_58 : decode cX8_isName 58 = .ok (.iconst 0, 1) := by decide +kernel
theorem dX8_isName_59 : decode cX8_isName 59 = .ok (.ireturn, 1) := by decide +kernel
theorem dX8_isName_60 : decode cX8_isName 60 = .ok (.iinc 2 1, 3) := by decide +kernel
theorem dX8_isName_63 : decode cX8_isName 63 = .ok (.goto (-35), 3) := by decide +kernel
theorem dX8_isName_66 : decode cX8_isName 66 = .ok (.iconst 1, 1) := by decide +kernel
theorem dX8_isName_67 : decode cX8_isName 67 = .ok (.ireturn, 1) := by decide +kernel
theorem dX8_takeToken_0 : decode cX8_takeToken 0 = .ok (.aload_n 0, 1) := by decide +kernel
theorem dX8_takeToken_1 : decode cX8_takeToken 1 = .ok (.aload_n 0, 1) := by decide +kernel
theorem dX8_takeToken_2 : decode cX8_takeToken 2 = .ok (.getfield 42, 3) := by decide +kernel
theorem dX8_takeToken_5 : decode cX8_takeToken 5 = .ok (.putfield 94, 3) := by decide +kernel
theorem dX8_takeToken_8 : decode cX8_takeToken 8 = .ok (.aload_n 0, 1) := by decide +kernel
theorem dX8_takeToken_9 : decode cX8_takeToken 9 = .ok (.getfield 94, 3) := by decide +kernel
theorem dX8_takeToken_12 : decode cX8_takeToken 12 = .ok (.aload_n 0, 1) := by decide +kernel
theorem dX8_takeToken_13 : decode cX8_takeToken 13 = .ok (.getfield 12, 3) := by decide +kernel
theorem dX8_takeToken_16 : decode cX8_takeToken 16 = .ok (.getfield 58, 3) := by decide +kernel
theorem dX8_takeToken_19 : decode cX8_takeToken 19 = .ok (.if_icmp .ge 33, 3) := by decide +kernel
theorem dX8_takeToken_22 : decode cX8_takeToken 22 = .ok (.aload_n 0, 1) := by decide +kernel
theorem dX8_takeToken_23 : decode cX8_takeToken 23 = .ok (.getfield 12, 3) := by decide +kernel
theorem dX8_takeToken_26 : decode cX8_takeToken 26 = .ok (.getfield 159, 3) := by decide +kernel
theorem dX8_takeToken_29 : decode cX8_takeToken 29 = .ok (.aload_n 0, 1) := by decide +kernel
theorem dX8_takeToken_30 : decode cX8_takeToken 30 = .ok (.getfield 94, 3) := by decide +kernel
theorem dX8_takeToken_33 : decode cX8_takeToken 33 = .ok (.baload, 1) := by decide +kernel
theorem dX8_takeToken_34 : decode cX8_takeToken 34 = .ok (.bipush 32, 2) := by decide +kernel
theorem dX8_takeToken_36 : decode cX8_takeToken 36 = .ok (.if_icmp .ne 16, 3) := by decide +kernel
theorem dX8_takeToken_39 : decode cX8_takeToken 39 = .ok (.aload_n 0, 1) := by decide +kernel
theorem dX8_takeToken_40 : decode cX8_takeToken 40 = .ok (.dup, 1) := by decide +kernel
theorem dX8_takeToken_41 : decode cX8_takeToken 41 = .ok (.getfield 94, 3) := by decide +kernel
theorem dX8_takeToken_44 : decode cX8_takeToken 44 = .ok (.iconst 1, 1) := by decide +kernel
theorem dX8_takeToken_45 : decode cX8_takeToken 45 = .ok (.iadd, 1) := by decide +kernel
theorem dX8_takeToken_46 : decode cX8_takeToken 46 = .ok (.putfield 94, 3) := by decide +kernel
theorem dX8_takeToken_49 : decode cX8_takeToken 49 = .ok (.goto (-41), 3) := by decide +kernel
theorem dX8_takeToken_52 : decode cX8_takeToken 52 = .ok (.aload_n 0, 1) := by decide +kernel
theorem dX8_takeToken_53 : decode cX8_takeToken 53 = .ok (.aload_n 0, 1) := by decide +kernel
theorem dX8_takeToken_54 : decode cX8_takeToken 54 = .ok (.getfield 94, 3) := by decide +kernel
theorem dX8_takeToken_57 : decode cX8_takeToken 57 = .ok (.aload_n 0, 1) := by decide +kernel
theorem dX8_takeToken_58 : decode cX8_takeToken 58 = .ok (.getfield 12, 3) := by decide +kernel
theorem dX8_takeToken_61 : decode cX8_takeToken 61 = .ok (.getfield 58, 3) := by decide +kernel
theorem dX8_takeToken_64 : decode cX8_takeToken 64 = .ok (.if_icmp .ge 21, 3) := by decide +kernel
theorem dX8_takeToken_67 : decode cX8_takeToken 67 = .ok (.aload_n 0, 1) := by decide +kernel
theorem dX8_takeToken_68 : decode cX8_takeToken 68 = .ok (.getfield 12, 3) := by decide +kernel
theorem dX8_takeToken_71 : decode cX8_takeToken 71 = .ok (.getfield 159, 3) := by decide +kernel
theorem dX8_takeToken_74 : decode cX8_takeToken 74 = .ok (.aload_n 0, 1) := by decide +kernel
theorem dX8_takeToken_75 : decode cX8_takeToken 75 = .ok (.getfield 94, 3) := by decide +kernel
theorem dX8_takeToken_78 : decode cX8_takeToken 78 = .ok (.baload, 1) := by decide +kernel
theorem dX8_takeToken_79 : decode cX8_takeToken 79 = .ok (.invokestatic 167, 3) := by decide +kernel
theorem dX8_takeToken_82 : decode cX8_takeToken 82 = .ok (.goto 4, 3) := by decide +kernel
theorem dX8_takeToken_85 : decode cX8_takeToken 85 = .ok (.iconst 0, 1) := by decide +kernel
theorem dX8_takeToken_86 : decode cX8_takeToken 86 = .ok (.putfield 49, 3) := by decide +kernel
theorem dX8_takeToken_89 : decode cX8_takeToken 89 = .ok (.aload_n 0, 1) := by decide +kernel
theorem dX8_takeToken_90 : decode cX8_takeToken 90 = .ok (.aload_n 0, 1) := by decide +kernel
theorem dX8_takeToken_91 : decode cX8_takeToken 91 = .ok (.getfield 49, 3) := by decide +kernel
theorem dX8_takeToken_94 : decode cX8_takeToken 94 = .ok (.ifCond .ne 10, 3) := by decide +kernel
theorem dX8_takeToken_97 : decode cX8_takeToken 97 = .ok (.aload_n 0, 1) := by decide +kernel
theorem dX8_takeToken_98 : decode cX8_takeToken 98 = .ok (.getfield 94, 3) := by decide +kernel
theorem dX8_takeToken_101 : decode cX8_takeToken 101 = .ok (.goto 9, 3) := by decide +kernel
theorem dX8_takeToken_104 : decode cX8_takeToken 104 = .ok (.aload_n 0, 1) := by decide +kernel
theorem dX8_takeToken_105 : decode cX8_takeToken 105 = .ok (.getfield 94, 3) := by decide +kernel
theorem dX8_takeToken_108 : decode cX8_takeToken 108 = .ok (.iconst 1, 1) := by decide +kernel
theorem dX8_takeToken_109 : decode cX8_takeToken 109 = .ok (.iadd, 1) := by decide +kernel
theorem dX8_takeToken_110 : decode cX8_takeToken 110 = .ok (.putfield 42, 3) := by decide +kernel
theorem dX8_takeToken_113 : decode cX8_takeToken 113 = .ok (.aload_n 0, 1) := by decide +kernel
theorem dX8_takeToken_114 : decode cX8_takeToken 114 = .ok (.getfield 49, 3) := by decide +kernel
theorem dX8_takeToken_117 : decode cX8_takeToken 117 = .ok (.iconst 1, 1) := by decide +kernel
theorem dX8_takeToken_118 : decode cX8_takeToken 118 = .ok (.if_icmp .eq 11, 3) := by decide +kernel
theorem dX8_takeToken_121 : decode cX8_takeToken 121 = .ok (.aload_n 0, 1) := by decide +kernel
theorem dX8_takeToken_122 : decode cX8_takeToken 122 = .ok (.getfield 49, 3) := by decide +kernel
theorem dX8_takeToken_125 : decode cX8_takeToken 125 = .ok (.iconst 2, 1) := by decide +kernel
theorem dX8_takeToken_126 : decode cX8_takeToken 126 = .ok (.if_icmp .ne 7, 3) := by decide +kernel
theorem dX8_takeToken_129 : decode cX8_takeToken 129 = .ok (.iconst 1, 1) := by decide +kernel
theorem dX8_takeToken_130 : decode cX8_takeToken 130 = .ok (.goto 4, 3) := by decide +kernel
theorem dX8_takeToken_133 : decode cX8_takeToken 133 = .ok (.iconst 0, 1) := by decide +kernel
theorem dX8_takeToken_134 : decode cX8_takeToken 134 = .ok (.istore_n 1, 1) := by decide +kernel
theorem dX8_takeToken_135 : decode cX8_takeToken 135 = .ok (.iload_n 1, 1) := by decide +kernel
theorem dX8_takeToken_136 : decode cX8_takeToken 136 = .ok (.ifCond .eq 52, 3) := by decide +kernel
theorem dX8_takeToken_139 : decode cX8_takeToken 139 = .ok (.aload_n 0, 1) := by decide +kernel
theorem dX8_takeToken_140 : decode cX8_takeToken 140 = .ok (.getfield 42, 3) := by decide +kernel
theorem dX8_takeToken_143 : decode cX8_takeToken 143 = .ok (.aload_n 0, 1) := by decide +kernel
theorem dX8_takeToken_144 : decode cX8_takeToken 144 = .ok (.getfield 12, 3) := by decide +kernel
theorem dX8_takeToken_147 : decode cX8_takeToken 147 = .ok (.getfield 58, 3) := by decide +kernel
theorem dX8_takeToken_150 : decode cX8_takeToken 150 = .ok (.if_icmp .ge 38, 3) := by decide +kernel
theorem dX8_takeToken_153 : decode cX8_takeToken 153 = .ok (.aload_n 0, 1) := by decide +kernel
theorem dX8_takeToken_154 : decode cX8_takeToken 154 = .ok (.getfield 12, 3) := by decide +kernel
theorem dX8_takeToken_157 : decode cX8_takeToken 157 = .ok (.getfield 159, 3) := by decide +kernel
theorem dX8_takeToken_160 : decode cX8_takeToken 160 = .ok (.aload_n 0, 1) := by decide +kernel
theorem dX8_takeToken_161 : decode cX8_takeToken 161 = .ok (.getfield 42, 3) := by decide +kernel
theorem dX8_takeToken_164 : decode cX8_takeToken 164 = .ok (.baload, 1) := by decide +kernel
theorem dX8_takeToken_165 : decode cX8_takeToken 165 = .ok (.invokestatic 167, 3) := by decide +kernel
theorem dX8_takeToken_168 : decode cX8_takeToken 168 = .ok (.aload_n 0, 1) := by decide +kernel
theorem dX8_takeToken_169 : decode cX8_takeToken 169 = .ok (.getfield 49, 3) := by decide +kernel
theorem dX8_takeToken_172 : decode cX8_takeToken 172 = .ok (.if_icmp .ne 16, 3) := by decide +kernel
theorem dX8_takeToken_175 : decode cX8_takeToken 175 = .ok (.aload_n 0, 1) := by decide +kernel
theorem dX8_takeToken_176 : decode cX8_takeToken 176 = .ok (.dup, 1) := by decide +kernel
theorem dX8_takeToken_177 : decode cX8_takeToken 177 = .ok (.getfield 42, 3) := by decide +kernel
theorem dX8_takeToken_180 : decode cX8_takeToken 180 = .ok (.iconst 1, 1) := by decide +kernel
theorem dX8_takeToken_181 : decode cX8_takeToken 181 = .ok (.iadd, 1) := by decide +kernel
theorem dX8_takeToken_182 : decode cX8_takeToken 182 = .ok (.putfield 42, 3) := by decide +kernel
theorem dX8_takeToken_185 : decode cX8_takeToken 185 = .ok (.goto (-50), 3) := by decide +kernel
theorem dX8_takeToken_188 : decode cX8_takeToken 188 = .ok (.aload_n 0, 1) := by decide +kernel
theorem dX8_takeToken_189 : decode cX8_takeToken 189 = .ok (.getfield 49, 3) := by decide +kernel
theorem dX8_takeToken_192 : decode cX8_takeToken 192 = .ok (.iconst 4, 1) := by decide +kernel
theorem dX8_takeToken_193 : decode cX8_takeToken 193 = .ok (.if_icmp .eq 24, 3) := by decide +kernel
theorem dX8_takeToken_196 : decode cX8_takeToken 196 = .ok (.aload_n 0, 1) := by decide +kernel
theorem dX8_takeToken_197 : decode cX8_takeToken 197 = .ok (.getfield 49, 3) := by decide +kernel
theorem dX8_takeToken_200 : decode cX8_takeToken 200 = .ok (.iconst 2, 1) := by decide +kernel
theorem dX8_takeToken_201 : decode cX8_takeToken 201 = .ok (.if_icmp .ne 26, 3) := by decide +kernel
theorem dX8_takeToken_204 : decode cX8_takeToken 204 = .ok (.aload_n 0, 1) := by decide +kernel
theorem dX8_takeToken_205 : decode cX8_takeToken 205 = .ok (.getfield 42, 3) := by decide +kernel
theorem dX8_takeToken_208 : decode cX8_takeToken 208 = .ok (.aload_n 0, 1) := by decide +kernel
theorem dX8_takeToken_209 : decode cX8_takeToken 209 = .ok (.getfield 94, 3) := by decide +kernel
theorem dX8_takeToken_212 : decode cX8_takeToken 212 = .ok (.isub, 1) := by decide +kernel
theorem dX8_takeToken_213 : decode cX8_takeToken 213 = .ok (.iconst 2, 1) := by decide +kernel
theorem dX8_takeToken_214 : decode cX8_takeToken 214 = .ok (.if_icmp .le 13, 3) := by decide +kernel
theorem dX8_takeToken_217 : decode cX8_takeToken 217 = .ok (.aload_n 0, 1) := by decide +kernel
theorem dX8_takeToken_218 : decode cX8_takeToken 218 = .ok (.iconst 1, 1) := by decide +kernel
theorem dX8_takeToken_219 : decode cX8_takeToken 219 = .ok (.aload_n 0, 1) := by decide +kernel
theorem dX8_takeToken_220 : decode cX8_takeToken 220 = .ok (.getfield 94, 3) := by decide +kernel
theorem dX8_takeToken_223 : decode cX8_takeToken 223 = .ok (.invokevirtual 61, 3) := by decide +kernel
theorem dX8_takeToken_226 : decode cX8_takeToken 226 = .ok (.ireturn, 1) := by decide +kernel
theorem dX8_takeToken_227 : decode cX8_takeToken 227 = .ok (.aload_n 0, 1) := by decide +kernel
theorem dX8_takeToken_228 : decode cX8_takeToken 228 = .ok (.iconst 0, 1) := by decide +kernel
theorem dX8_takeToken_229 : decode cX8_takeToken 229 = .ok (.putfield 100, 3) := by decide +kernel
theorem dX8_takeToken_232 : decode cX8_takeToken 232 = .ok (.aload_n 0, 1) := by decide +kernel
theorem dX8_takeToken_233 : decode cX8_takeToken 233 = .ok (.getfield 94, 3) := by decide +kernel
theorem dX8_takeToken_236 : decode cX8_takeToken 236 = .ok (.istore_n 2, 1) := by decide +kernel
theorem dX8_takeToken_237 : decode cX8_takeToken 237 = .ok (.iload_n 2, 1) := by decide +kernel
theorem dX8_takeToken_238 : decode cX8_takeToken 238 = .ok (.aload_n 0, 1) := by decide +kernel
theorem dX8_takeToken_239 : decode cX8_takeToken 239 = .ok (.getfield 42, 3) := by decide +kernel
theorem dX8_takeToken_242 : decode cX8_takeToken 242 = .ok (.if_icmp .ge 41, 3) := by decide +kernel
theorem dX8_takeToken_245 : decode cX8_takeToken 245 = .ok (.aload_n 0, 1) := by decide +kernel
theorem dX8_takeToken_246 : decode cX8_takeToken 246 = .ok (.getfield 49, 3) := by decide +kernel
theorem dX8_takeToken_249 : decode cX8_takeToken 249 = .ok (.iconst 2, 1) := by decide +kernel
theorem dX8_takeToken_250 : decode cX8_takeToken 250 = .ok (.if_icmp .ne 33, 3) := by decide +kernel
theorem dX8_takeToken_253 : decode cX8_takeToken 253 = .ok (.aload_n 0, 1) := by decide +kernel
theorem dX8_takeToken_254 : decode cX8_takeToken 254 = .ok (.bipush 10, 2) := by decide +kernel
theorem dX8_takeToken_256 : decode cX8_takeToken 256 = .ok (.aload_n 0, 1) := by decide +kernel
theorem dX8_takeToken_257 : decode cX8_takeToken 257 = .ok (.getfield 100, 3) := by decide +kernel
theorem dX8_takeToken_260 : decode cX8_takeToken 260 = .ok (.imul, 1) := by decide +kernel
theorem dX8_takeToken_261 : decode cX8_takeToken 261 = .ok (.aload_n 0, 1) := by decide +kernel
theorem dX8_takeToken_262 : decode cX8_takeToken 262 = .ok (.getfield 12, 3) := by decide +kernel
theorem dX8_takeToken_265 : decode cX8_takeToken 265 = .ok (.getfield 159, 3) := by decide +kernel
theorem dX8_takeToken_268 : decode cX8_takeToken 268 = .ok (.iload_n 2, 1) := by decide +kernel
theorem dX8_takeToken_269 : decode cX8_takeToken 269 = .ok (.baload, 1) := by decide +kernel
theorem dX8_takeToken_270 : decode cX8_takeToken 270 = .ok (.iadd, 1) := by decide +kernel
theorem dX8_takeToken_271 : decode cX8_takeToken 271 = .ok (.bipush 48, 2) := by decide +kernel
theorem dX8_takeToken_273 : decode cX8_takeToken 273 = .ok (.isub, 1) := by decide +kernel
theorem dX8_takeToken_274 : decode cX8_takeToken 274 = .ok (.putfield 100, 3) := by decide +kernel
theorem dX8_takeToken_277 : decode cX8_takeToken 277 = .ok (.iinc 2 1, 3) := by decide +kernel
theorem dX8_takeToken_280 : decode cX8_takeToken 280 = .ok (.goto (-43), 3) := by decide +kernel
theorem dX8_takeToken_283 : decode cX8_takeToken 283 = .ok (.iconst 1, 1) := by decide +kernel
theorem dX8_takeToken_284 : decode cX8_takeToken 284 = .ok (.ireturn, 1) := by decide +kernel
