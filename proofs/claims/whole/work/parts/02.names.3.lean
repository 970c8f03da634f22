theorem dX8_kindOf_0 : decode cX8_kindOf 0 = .ok (.iload_n 0, 1) := by decide +kernel
theorem dX8_kindOf_1 : decode cX8_kindOf 1 = .ok (.bipush 97, 2) := by decide +kernel
theorem dX8_kindOf_3 : decode cX8_kindOf 3 = .ok (.if_icmp .lt 11, 3) := by decide +kernel
theorem dX8_kindOf_6 : decode cX8_kindOf 6 = .ok (.iload_n 0, 1) := by decide +kernel
theorem dX8_kindOf_7 : decode cX8_kindOf 7 = .ok (.bipush 122, 2) := by decide +kernel
theorem dX8_kindOf_9 : decode cX8_kindOf 9 = .ok (.if_icmp .gt 5, 3) := by decide +kernel
theorem dX8_kindOf_12 : decode cX8_kindOf 12 = .ok (.iconst 1, 1) := by decide +kernel
theorem dX8_kindOf_13 : decode cX8_kindOf 13 = .ok (.ireturn, 1) := by decide +kernel
theorem dX8_kindOf_14 : decode cX8_kindOf 14 = .ok (.iload_n 0, 1) := by decide +kernel
theorem dX8_kindOf_15 : decode cX8_kindOf 15 = .ok (.bipush 48, 2) := by decide +kernel
theorem dX8_kindOf_17 : decode cX8_kindOf 17 = .ok (.if_icmp .lt 11, 3) := by decide +kernel
theorem dX8_kindOf_20 : decode cX8_kindOf 20 = .ok (.iload_n 0, 1) := by decide +kernel
theorem dX8_kindOf_21 : decode cX8_kindOf 21 = .ok (.bipush 57, 2) := by decide +kernel
theorem dX8_kindOf_23 : decode cX8_kindOf 23 = .ok (.if_icmp .gt 5, 3) := by decide +kernel
theorem dX8_kindOf_26 : decode cX8_kindOf 26 = .ok (.iconst 2, 1) := by decide +kernel
theorem dX8_kindOf_27 : decode cX8_kindOf 27 = .ok (.ireturn, 1) := by decide +kernel
theorem dX8_kindOf_28 : decode cX8_kindOf 28 = .ok (.iload_n 0, 1) := by decide +kernel
theorem dX8_kindOf_29 : decode cX8_kindOf 29 = .ok (.bipush 59, 2) := by decide +kernel
theorem dX8_kindOf_31 : decode cX8_kindOf 31 = .ok (.if_icmp .ne 7, 3) := by decide +kernel
theorem dX8_kindOf_34 : decode cX8_kindOf 34 = .ok (.iconst 3, 1) := by decide +kernel
theorem dX8_kindOf_35 : decode cX8_kindOf 35 = .ok (.goto 4, 3) := by decide +kernel
theorem dX8_kindOf_38 : decode cX8_kindOf 38 = .ok (.iconst 4, 1) := by decide +kernel
theorem dX8_kindOf_39 : decode cX8_kindOf 39 = .ok (.ireturn, 1) := by decide +kernel
theorem dX9_init_0 : decode cX9_init 0 = .ok (.aload_n 0, 1) := by decide +kernel
theorem dX9_init_1 : decode cX9_init 1 = .ok (.invokespecial 1, 3) := by decide +kernel
theorem dX9_init_4 : decode cX9_init 4 = .ok (.aload_n 0, 1) := by decide +kernel
theorem dX9_init_5 : decode cX9_init 5 = .ok (.new 7, 3) := by decide +kernel
theorem dX9_init_8 : decode cX9_init 8 = .ok (.dup, 1) := by decide +kernel
theorem dX9_init_9 : decode cX9_init 9 = .ok (.invokespecial 9, 3) := by decide +kernel
theorem dX9_init_12 : decode cX9_init 12 = .ok (.putfield 10, 3) := by decide +kernel
theorem dX9_init_15 : decode cX9_init 15 = .ok (.aload_n 0, 1) := by decide +kernel
theorem dX9_init_16 : decode cX9_init 16 = .ok (.new 7, 3) := by decide +kernel
theorem dX9_init_19 : decode cX9_init 19 = .ok (.dup, 1) := by decide +kernel
theorem dX9_init_20 : decode cX9_init 20 = .ok (.invokespecial 9, 3) := by decide +kernel
theorem dX9_init_23 : decode cX9_init 23 = .ok (.putfield 16, 3) := by decide +kernel
theorem dX9_init_26 : decode cX9_init 26 = .ok (.aload_n 0, 1) := by decide +kernel
theorem dX9_init_27 : decode cX9_init 27 = .ok (.new 19, 3) := by decide +kernel
theorem dX9_init_30 : decode cX9_init 30 = .ok (.dup, 1) := by decide +kernel
theorem dX9_init_31 : decode cX9_init 31 = .ok (.invokespecial 21, 3) := by decide +kernel
theorem dX9_init_34 : decode cX9_init 34 = .ok (.putfield 22, 3) := by decide +kernel
theorem dX9_init_37 : decode cX9_init 37 = .ok (.aload_n 0, 1) := by decide +kernel
theorem dX9_init_38 : decode cX9_init 38 = .ok (.new 26, 3) := by decide +kernel
theorem dX9_init_41 : decode cX9_init 41 = .ok (.dup, 1) := by decide +kernel
theorem dX9_init_42 : decode cX9_init 42 = .ok (.invokespecial 28, 3) := by decide +kernel
theorem dX9_init_45 : decode cX9_init 45 = .ok (.putfield 29, 3) := by decide +kernel
theorem dX9_init_48 : decode cX9_init 48 = .ok (.aload_n 0, 1) := by decide +kernel
theorem dX9_init_49 : decode cX9_init 49 = .ok (.new 33, 3) := by decide +kernel
theorem dX9_init_52 : decode cX9_init 52 = .ok (.dup, 1) := by decide +kernel
theorem dX9_init_53 : decode cX9_init 53 = .ok (.invokespecial 35, 3) := by decide +kernel
theorem dX9_init_56 : decode cX9_init 56 = .ok (.putfield 36, 3) := by decide +kernel
theorem dX9_init_59 : decode cX9_init 59 = .ok (.aload_n 0, 1) := by decide +kernel
theorem dX9_init_60 : decode cX9_init 60 = .ok (.aload_n 0, 1) := by decide +kernel
theorem dX9_init_61 : decode cX9_init 61 = .ok (.getfield 36, 3) := by decide +kernel
theorem dX9_init_64 : decode cX9_init 64 = .ok (.getfield 40, 3) := by decide +kernel
theorem dX9_init_67 : decode cX9_init 67 = .ok (.putfield 44, 3) := by decide +kernel
theorem dX9_init_70 : decode cX9_init 70 = .ok (.aload_n 0, 1) := by decide +kernel
theorem dX9_init_71 : decode cX9_init 71 = .ok (.iconst 2, 1) := by decide +kernel
theorem dX9_init_72 : decode cX9_init 72 = .ok (.anewarray 45, 3) := by decide +kernel
theorem dX9_init_75 : decode cX9_init 75 = .ok (.putfield 47, 3) := by decide +kernel
theorem dX9_init_78 : decode cX9_init 78 = .ok (.aload_n 0, 1) := by decide +kernel
theorem dX9_init_79 : decode cX9_init 79 = .ok (.iconst 4, 1) := by decide +kernel
theorem dX9_init_80 : decode cX9_init 80 = .ok (.anewarray 51, 3) := by decide +kernel
theorem dX9_init_83 : decode cX9_init 83 = .ok (.putfield 53, 3) := by decide +kernel
theorem dX9_init_86 : decode cX9_init 86 = .ok (.iconst 0, 1) := by decide +kernel
theorem dX9_init_87 : decode cX9_init 87 = .ok (.istore_n 1, 1) := by decide +kernel
theorem dX9_init_88 : decode cX9_init 88 = .ok (.iload_n 1, 1) := by decide +kernel
theorem dX9_init_89 : decode cX9_init 89 = .ok (.iconst 2, 1) := by decide +kernel
theorem dX9_init_90 : decode cX9_init 90 = .ok (.if_icmp .ge 22, 3) := by decide +kernel
theorem dX9_init_93 : decode cX9_init 93 = .ok (.aload_n 0, 1) := by decide +kernel
theorem dX9_init_94 : decode cX9_init 94 = .ok (.getfield 47, 3) := by decide +kernel
theorem dX9_init_97 : decode cX9_init 97 = .ok (.iload_n 1, 1) := by decide +kernel
theorem dX9_init_98 : decode cX9_init 98 = .ok (.new 45, 3) := by decide +kernel
theorem dX9_init_101 : decode cX9_init 101 = .ok (.dup, 1) := by decide +kernel
theorem dX9_init_102 : decode cX9_init 102 = .ok (.invokespecial 57, 3) := by decide +kernel
theorem dX9_init_105 : decode cX9_init 105 = .ok (.aastore, 1) := by decide +kernel
theorem dX9_init_106 : decode cX9_init 106 = .ok (.iinc 1 1, 3) := by decide +kernel
theorem dX9_init_109 : decode cX9_init 109 = .ok (.goto (-21), 3) := by decide +kernel
theorem dX9_init_112 : decode cX9_init 112 = .ok (.iconst 0, 1) := by decide +kernel
theorem dX9_init_113 : decode cX9_init 113 = .ok (.istore_n 1, 1) := by decide +kernel
theorem dX9_init_114 : decode cX9_init 114 = .ok (.iload_n 1, 1) := by decide +kernel
theorem dX9_init_115 : decode cX9_init 115 = .ok (.iconst 4, 1) := by decide +kernel
theorem dX9_init_116 : decode cX9_init 116 = .ok (.if_icmp .ge 22, 3) := by decide +kernel
theorem dX9_init_119 : decode cX9_init 119 = .ok (.aload_n 0, 1) := by decide +kernel
theorem dX9_init_120 : decode cX9_init 120 = .ok (.getfield 53, 3) := by decide +kernel
theorem dX9_init_123 : decode cX9_init 123 = .ok (.iload_n 1, 1) := by decide +kernel
theorem dX9_init_124 : decode cX9_init 124 = .ok (.new 51, 3) := by decide +kernel
theorem dX9_init_127 : decode cX9_init 127 = .ok (.dup, 1) := by decide +kernel
theorem dX9_init_128 : decode cX9_init 128 = .ok (.invokespecial 58, 3) := by decide +kernel
theorem dX9_init_131 : decode cX9_init 131 = .ok (.aastore, 1) := by decide +kernel
theorem dX9_init_132 : decode cX9_init 132 = .ok (.iinc 1 1, 3) := by decide +kernel
theorem dX9_init_135 : decode cX9_init 135 = .ok (.goto (-21), 3) := by decide +kernel
theorem dX9_init_138 : decode cX9_init 138 = .ok (.return_, 1) := by decide +kernel
theorem dX9_feed_0 : decode cX9_feed 0 = .ok (.aload_n 0, 1) := by decide +kernel
theorem dX9_feed_1 : decode cX9_feed 1 = .ok (.getfield 44, 3) := by decide +kernel
theorem dX9_feed_4 : decode cX9_feed 4 = .ok (.getfield 59, 3) := by decide +kernel
theorem dX9_feed_7 : decode cX9_feed 7 = .ok (.bipush 8, 2) := by decide +kernel
theorem dX9_feed_9 : decode cX9_feed 9 = .ok (.iadd, 1) := by decide +kernel
theorem dX9_feed_10 : decode cX9_feed 10 = .ok (.sipush 320, 3) := by decide +kernel
theorem dX9_feed_13 : decode cX9_feed 13 = .ok (.if_icmp .le 6, 3) := by decide +kernel
theorem dX9_feed_16 : decode cX9_feed 16 = .ok (.bipush (-3), 2) := by decide +kernel
theorem dX9_feed_18 : decode cX9_feed 18 = .ok (.ireturn, 1) := by decide +kernel
theorem dX9_feed_19 : decode cX9_feed 19 = .ok (.aload_n 0, 1) := by decide +kernel
theorem dX9_feed_20 : decode cX9_feed 20 = .ok (.getfield 44, 3) := by decide +kernel
theorem dX9_feed_23 : decode cX9_feed 23 = .ok (.lload_n 1, 1) := by decide +kernel
theorem dX9_feed_24 : decode cX9_feed 24 = .ok (.invokevirtual 65, 3) := by decide +kernel
theorem dX9_feed_27 : decode cX9_feed 27 = .ok (.aload_n 0, 1) := by decide +kernel
theorem dX9_feed_28 : decode cX9_feed 28 = .ok (.getfield 44, 3) := by decide +kernel
theorem dX9_feed_31 : decode cX9_feed 31 = .ok (.getfield 59, 3) := by decide +kernel
theorem dX9_feed_34 : decode cX9_feed 34 = .ok (.ireturn, 1) := by decide +kernel
theorem dX9_end_0 : decode cX9_end 0 = .ok (.iload_n 1, 1) := by decide +kernel
theorem dX9_end_1 : decode cX9_end 1 = .ok (.iconst 0, 1) := by decide +kernel
theorem dX9_end_2 : decode cX9_end 2 = .ok (.aload_n 0, 1) := by decide +kernel
theorem dX9_end_3 : decode cX9_end 3 = .ok (.getfield 44, 3) := by decide +kernel
theorem dX9_end_6 : decode cX9_end 6 = .ok (.getfield 59, 3) := by decide +kernel
theorem dX9_end_9 : decode cX9_end 9 = .ok (.invokestatic 69, 3) := by decide +kernel
theorem dX9_end_12 : decode cX9_end 12 = .ok (.ifCond .ne 5, 3) := by decide +kernel
theorem dX9_end_15 : decode cX9_end 15 = .ok (.iconst (-1), 1) := by decide +kernel
theorem dX9_end_16 : decode cX9_end 16 = .ok (.ireturn, 1) := by decide +kernel
theorem dX9_end_17 : decode cX9_end 17 = .ok (.aload_n 0, 1) := by decide +kernel
theorem dX9_end_18 : decode cX9_end 18 = .ok (.getfield 44, 3) := by decide +kernel
theorem dX9_end_21 : decode cX9_end 21 = .ok (.getfield 59, 3) := by decide +kernel
theorem dX9_end_24 : decode cX9_end 24 = .ok (.istore_n 2, 1) := by decide +kernel
theorem dX9_end_25 : decode cX9_end 25 = .ok (.aload_n 0, 1) := by decide +kernel
theorem dX9_end_26 : decode cX9_end 26 = .ok (.getfield 44, 3) := by decide +kernel
theorem dX9_end_29 : decode cX9_end 29 = .ok (.iload_n 1, 1) := by decide +kernel
theorem dX9_end_30 : decode cX9_end 30 = .ok (.putfield 59, 3) := by decide +kernel
theorem dX9_end_33 : decode cX9_end 33 = .ok (.iload_n 2, 1) := by decide +kernel
theorem dX9_end_34 : decode cX9_end 34 = .ok (.ireturn, 1) := by decide +kernel
theorem dX9_text_0 : decode cX9_text 0 = .ok (.aload_n 0, 1) := by decide +kernel
theorem dX9_text_1 : decode cX9_text 1 = .ok (.getfield 36, 3) := by decide +kernel
theorem dX9_text_4 : decode cX9_text 4 = .ok (.invokevirtual 73, 3) := by decide +kernel
theorem dX9_text_7 : decode cX9_text 7 = .ok (.istore_n 1, 1) := by decide +kernel
theorem dX9_text_8 : decode cX9_text 8 = .ok (.aload_n 0, 1) := by decide +kernel
theorem dX9_text_9 : decode cX9_text 9 = .ok (.getfield 44, 3) := by decide +kernel
theorem dX9_text_12 : decode cX9_text 12 = .ok (.iconst 0, 1) := by decide +kernel
theorem dX9_text_13 : decode cX9_text 13 = .ok (.putfield 59, 3) := by decide +kernel
theorem dX9_text_16 : decode cX9_text 16 = .ok (.aload_n 0, 1) := by decide +kernel
theorem dX9_text_17 : decode cX9_text 17 = .ok (.getfield 36, 3) := by decide +kernel
theorem dX9_text_20 : decode cX9_text 20 = .ok (.getfield 77, 3) := by decide +kernel
theorem dX9_text_23 : decode cX9_text 23 = .ok (.ifCond .eq 14, 3) := by decide +kernel
theorem dX9_text_26 : decode cX9_text 26 = .ok (.bipush (-10), 2) := by decide +kernel
theorem dX9_text_28 : decode cX9_text 28 = .ok (.aload_n 0, 1) := by decide +kernel
theorem dX9_text_29 : decode cX9_text 29 = .ok (.getfield 36, 3) := by decide +kernel
theorem dX9_text_32 : decode cX9_text 32 = .ok (.getfield 80, 3) := by decide +kernel
theorem dX9_text_35 : decode cX9_text 35 = .ok (.isub, 1) := by decide +kernel
theorem dX9_text_36 : decode cX9_text 36 = .ok (.ireturn, 1) := by decide +kernel
theorem dX9_text_37 : decode cX9_text 37 = .ok (.aload_n 0, 1) := by decide +kernel
theorem dX9_text_38 : decode cX9_text 38 = .ok (.getfield 10, 3) := by decide +kernel
theorem dX9_text_41 : decode cX9_text 41 = .ok (.aload_n 0, 1) := by decide +kernel
theorem dX9_text_42 : decode cX9_text 42 = .ok (.getfield 36, 3) := by decide +kernel
theorem dX9_text_45 : decode cX9_text 45 = .ok (.getfield 83, 3) := by decide +kernel
theorem dX9_text_48 : decode cX9_text 48 = .ok (.invokevirtual 86, 3) := by decide +kernel
theorem dX9_text_51 : decode cX9_text 51 = .ok (.aload_n 0, 1) := by decide +kernel
theorem dX9_text_52 : decode cX9_text 52 = .ok (.getfield 22, 3) := by decide +kernel
theorem dX9_text_55 : decode cX9_text 55 = .ok (.iconst 0, 1) := by decide +kernel
theorem dX9_text_56 : decode cX9_text 56 = .ok (.putfield 90, 3) := by decide +kernel
theorem dX9_text_59 : decode cX9_text 59 = .ok (.iconst 0, 1) := by decide +kernel
theorem dX9_text_60 : decode cX9_text 60 = .ok (.istore_n 2, 1) := by decide +kernel
theorem dX9_text_61 : decode cX9_text 61 = .ok (.iload_n 2, 1) := by decide +kernel
theorem dX9_text_62 : decode cX9_text 62 = .ok (.iconst 2, 1) := by decide +kernel
theorem dX9_text_63 : decode cX9_text 63 = .ok (.if_icmp .ge 19, 3) := by decide +kernel
theorem dX9_text_66 : decode cX9_text 66 = .ok (.aload_n 0, 1) := by decide +kernel
theorem dX9_text_67 : decode cX9_text 67 = .ok (.getfield 47, 3) := by decide +kernel
theorem dX9_text_70 : decode cX9_text 70 = .ok (.iload_n 2, 1) := by decide +kernel
theorem dX9_text_71 : decode cX9_text 71 = .ok (.aaload, 1) := by decide +kernel
theorem dX9_text_72 : decode cX9_text 72 = .ok (.iconst 0, 1) := by decide +kernel
theorem dX9_text_73 : decode cX9_text 73 = .ok (.putfield 93, 3) := by decide +kernel
theorem dX9_text_76 : decode cX9_text 76 = .ok (.iinc 2 1, 3) := by decide +kernel
theorem dX9_text_79 : decode cX9_text 79 = .ok (.goto (-18), 3) := by decide +kernel
theorem dX9_text_82 : decode cX9_text 82 = .ok (.iload_n 1, 1) := by decide +kernel
theorem dX9_text_83 : decode cX9_text 83 = .ok (.ireturn, 1) := by decide +kernel
theorem dX9_fault_0 : decode cX9_fault 0 = .ok (.aload_n 0, 1) := by decide +kernel
theorem dX9_fault_1 : decode cX9_fault 1 = .ok (.getfield 36, 3) := by decide +kernel
theorem dX9_fault_4 : decode cX9_fault 4 = .ok (.getfield 77, 3) := by decide +kernel
theorem dX9_fault_7 : decode cX9_fault 7 = .ok (.ireturn, 1) := by decide +kernel
theorem dX9_rule_0 : decode cX9_rule 0 = .ok (.iload_n 1, 1) := by decide +kernel
theorem dX9_rule_1 : decode cX9_rule 1 = .ok (.tableswitch 87 0 5 #[39, 47, 55, 63, 71, 79], 39) := by decide +kernel
theorem dX9_rule_40 : decode cX9_rule 40 = .ok (.aload_n 0, 1) := by decide +kernel
theorem dX9_rule_41 : decode cX9_rule 41 = .ok (.getfield 10, 3) := by decide +kernel
theorem dX9_rule_44 : decode cX9_rule 44 = .ok (.getfield 97, 3) := by decide +kernel
theorem dX9_rule_47 : decode cX9_rule 47 = .ok (.ireturn, 1) := by decide +kernel
theorem dX9_rule_48 : decode cX9_rule 48 = .ok (.aload_n 0, 1) := by decide +kernel
theorem dX9_rule_49 : decode cX9_rule 49 = .ok (.getfield 10, 3) := by decide +kernel
theorem dX9_rule_52 : decode cX9_rule 52 = .ok (.getfield 100, 3) := by decide +kernel
theorem dX9_rule_55 : decode cX9_rule 55 = .ok (.ireturn, 1) := by decide +kernel
theorem dX9_rule_56 : decode cX9_rule 56 = .ok (.aload_n 0, 1) := by decide +kernel
theorem dX9_rule_57 : decode cX9_rule 57 = .ok (.getfield 10, 3) := by decide +kernel
theorem dX9_rule_60 : decode cX9_rule 60 = .ok (.getfield 103, 3) := by decide +kernel
theorem dX9_rule_63 : decode cX9_rule 63 = .ok (.ireturn, 1) := by decide +kernel
theorem dX9_rule_64 : decode cX9_rule 64 = .ok (.aload_n 0, 1) := by decide +kernel
theorem dX9_rule_65 : decode cX9_rule 65 = .ok (.getfield 10, 3) := by decide +kernel
theorem dX9_rule_68 : decode cX9_rule 68 = .ok (.getfield 106, 3) := by decide +kernel
theorem dX9_rule_71 : decode cX9_rule 71 = .ok (.ireturn, 1) := by decide +kernel
theorem dX9_rule_72 : decode cX9_rule 72 = .ok (.aload_n 0, 1) := by decide +kernel
theorem dX9_rule_73 : decode cX9_rule 73 = .ok (.getfield 10, 3) := by decide +kernel
theorem dX9_rule_76 : decode cX9_rule 76 = .ok (.getfield 109, 3) := by decide +kernel
theorem dX9_rule_79 : decode cX9_rule 79 = .ok (.ireturn, 1) := by decide +kernel
theorem dX9_rule_80 : decode cX9_rule 80 = .ok (.aload_n 0, 1) := by decide +kernel
theorem dX9_rule_81 : decode cX9_rule 81 = .ok (.getfield 10, 3) := by decide +kernel
theorem dX9_rule_84 : decode cX9_rule 84 = .ok (.getfield 112, 3) := by decide +kernel
theorem dX9_rule_87 : decode cX9_rule 87 = .ok (.ireturn, 1) := by decide +kernel
theorem dX9_rule_88 : decode cX9_rule 88 = .ok (.iconst (-1), 1) := by decide +kernel
theorem dX9_rule_89 : decode cX9_rule 89 = .ok (.ireturn, 1) := by decide +kernel
theorem dX9_hole_0 : decode cX9_hole 0 = .ok (.aload_n 0, 1) := by decide +kernel
theorem dX9_hole_1 : decode cX9_hole 1 = .ok (.iload_n 1, 1) := by decide +kernel
theorem dX9_hole_2 : decode cX9_hole 2 = .ok (.invokevirtual 115, 3) := by decide +kernel
theorem dX9_hole_5 : decode cX9_hole 5 = .ok (.ifCond .eq 15, 3) := by decide +kernel
theorem dX9_hole_8 : decode cX9_hole 8 = .ok (.aload_n 0, 1) := by decide +kernel
theorem dX9_hole_9 : decode cX9_hole 9 = .ok (.getfield 10, 3) := by decide +kernel
theorem dX9_hole_12 : decode cX9_hole 12 = .ok (.getfield 119, 3) := by decide +kernel
theorem dX9_hole_15 : decode cX9_hole 15 = .ok (.iload_n 1, 1) := by decide +kernel
theorem dX9_hole_16 : decode cX9_hole 16 = .ok (.iaload, 1) := by decide +kernel
theorem dX9_hole_17 : decode cX9_hole 17 = .ok (.goto 4, 3) := by decide +kernel
theorem dX9_hole_20 : decode cX9_hole 20 = .ok (.iconst (-1), 1) := by decide +kernel
theorem dX9_hole_21 : decode cX9_hole 21 = .ok (.ireturn, 1) := by decide +kernel
theorem dX9_coin_0 : decode cX9_coin 0 = .ok (.aload_n 0, 1) := by decide +kernel
theorem dX9_coin_1 : decode cX9_coin 1 = .ok (.iload_n 1, 1) := by decide +kernel
theorem dX9_coin_2 : decode cX9_coin 2 = .ok (.invokevirtual 123, 3) := by decide +kernel
theorem dX9_coin_5 : decode cX9_coin 5 = .ok (.ifCond .ne 5, 3) := by decide +kernel
theorem dX9_coin_8 : decode cX9_coin 8 = .ok (.iconst (-1), 1) := by decide +kernel
theorem dX9_coin_9 : decode cX9_coin 9 = .ok (.ireturn, 1) := by decide +kernel
theorem dX9_coin_10 : decode cX9_coin 10 = .ok (.aload_n 0, 1) := by decide +kernel
theorem dX9_coin_11 : decode cX9_coin 11 = .ok (.getfield 10, 3) := by decide +kernel
theorem dX9_coin_14 : decode cX9_coin 14 = .ok (.getfield 126, 3) := by decide +kernel
theorem dX9_coin_17 : decode cX9_coin 17 = .ok (.iload_n 1, 1) := by decide +kernel
theorem dX9_coin_18 : decode cX9_coin 18 = .ok (.aaload, 1) := by decide +kernel
theorem dX9_coin_19 : decode cX9_coin 19 = .ok (.astore_n 3, 1) := by decide +kernel
theorem dX9_coin_20 : decode cX9_coin 20 = .ok (.iload_n 2, 1) := by decide +kernel
theorem dX9_coin_21 : decode cX9_coin 21 = .ok (.tableswitch 61 0 3 #[31, 36, 44, 49], 31) := by decide +kernel
theorem dX9_coin_52 : decode cX9_coin 52 = .ok (.aload_n 3, 1) := by decide +kernel
theorem dX9_coin_53 : decode cX9_coin 53 = .ok (.getfield 130, 3) := by decide +kernel
theorem dX9_coin_56 : decode cX9_coin 56 = .ok (.ireturn, 1) := by decide +kernel
theorem dX9_coin_57 : decode cX9_coin 57 = .ok (.aload_n 3, 1) := by decide +kernel
theorem dX9_coin_58 : decode cX9_coin 58 = .ok (.getfield 135, 3) := by decide +kernel
theorem dX9_coin_61 : decode cX9_coin 61 = .ok (.invokestatic 138, 3) := by decide +kernel
theorem dX9_coin_64 : decode cX9_coin 64 = .ok (.ireturn, 1) := by decide +kernel
theorem dX9_coin_65 : decode cX9_coin 65 = .ok (.aload_n 3, 1) := by decide +kernel
theorem dX9_coin_66 : decode cX9_coin 66 = .ok (.getfield 142, 3) := by decide +kernel
theorem dX9_coin_69 : decode cX9_coin 69 = .ok (.ireturn, 1) := by decide +kernel
theorem dX9_coin_70 : decode cX9_coin 70 = .ok (.aload_n 0, 1) := by decide +kernel
theorem dX9_coin_71 : decode cX9_coin 71 = .ok (.getfield 10, 3) := by decide +kernel
theorem dX9_coin_74 : decode cX9_coin 74 = .ok (.aload_n 3, 1) := by decide +kernel
theorem dX9_coin_75 : decode cX9_coin 75 = .ok (.invokevirtual 145, 3) := by decide +kernel
theorem dX9_coin_78 : decode cX9_coin 78 = .ok (.invokestatic 138, 3) := by decide +kernel
theorem dX9_coin_81 : decode cX9_coin 81 = .ok (.ireturn, 1) := by decide +kernel
theorem dX9_coin_82 : decode cX9_coin 82 = .ok (.iconst (-1), 1) := by decide +kernel
theorem dX9_coin_83 : decode cX9_coin 83 = .ok (.ireturn, 1) := by decide +kernel
theorem dX9_crab_0 : decode cX9_crab 0 = .ok (.aload_n 0, 1) := by decide +kernel
theorem dX9_crab_1 : decode cX9_crab 1 = .ok (.iload_n 1, 1) := by decide +kernel
theorem dX9_crab_2 : decode cX9_crab 2 = .ok (.invokevirtual 149, 3) := by decide +kernel
theorem dX9_crab_5 : decode cX9_crab 5 = .ok (.ifCond .ne 5, 3) := by decide +kernel
theorem dX9_crab_8 : decode cX9_crab 8 = .ok (.iconst (-1), 1) := by decide +kernel
theorem dX9_crab_9 : decode cX9_crab 9 = .ok (.ireturn, 1) := by decide +kernel
theorem dX9_crab_10 : decode cX9_crab 10 = .ok (.aload_n 0, 1) := by decide +kernel
theorem dX9_crab_11 : decode cX9_crab 11 = .ok (.getfield 10, 3) := by decide +kernel
theorem dX9_crab_14 : decode cX9_crab 14 = .ok (.getfield 152, 3) := by decide +kernel
theorem dX9_crab_17 : decode cX9_crab 17 = .ok (.iload_n 1, 1) := by decide +kernel
theorem dX9_crab_18 : decode cX9_crab 18 = .ok (.aaload, 1) := by decide +kernel
theorem dX9_crab_19 : decode cX9_crab 19 = .ok (.astore_n 3, 1) := by decide +kernel
theorem dX9_crab_20 : decode cX9_crab 20 = .ok (.iload_n 2, 1) := by decide +kernel
theorem dX9_crab_21 : decode cX9_crab 21 = .ok (.tableswitch 72 0 4 #[35, 40, 45, 50, 55], 35) := by decide +kernel
theorem dX9_crab_56 : decode cX9_crab 56 = .ok (.aload_n 3, 1) := by decide +kernel
theorem dX9_crab_57 : decode cX9_crab 57 = .ok (.getfield 156, 3) := by decide +kernel
theorem dX9_crab_60 : decode cX9_crab 60 = .ok (.ireturn, 1) := by decide +kernel
theorem dX9_crab_61 : decode cX9_crab 61 = .ok (.aload_n 3, 1) := by decide +kernel
theorem dX9_crab_62 : decode cX9_crab 62 = .ok (.getfield 161, 3) := by decide +kernel
theorem dX9_crab_65 : decode cX9_crab 65 = .ok (.ireturn, 1) := by decide +kernel
theorem dX9_crab_66 : decode cX9_crab 66 = .ok (.aload_n 3, 1) := by decide +kernel
theorem dX9_crab_67 : decode cX9_crab 67 = .ok (.getfield 164, 3) := by decide +kernel
theorem dX9_crab_70 : decode cX9_crab 70 = .ok (.ireturn, 1) := by decide +kernel
theorem dX9_crab_71 : decode cX9_crab 71 = .ok (.aload_n 3, 1) := by decide +kernel
theorem dX9_crab_72 : decode cX9_crab 72 = .ok (.getfield 167, 3) := by decide +kernel
theorem dX9_crab_75 : decode cX9_crab 75 = .ok (.ireturn, 1) := by decide +kernel
theorem dX9_crab_76 : decode cX9_crab 76 = .ok (.aload_n 3, 1) := by decide +kernel
theorem dX9_crab_77 : decode cX9_crab 77 = .ok (.invokevirtual 170, 3) := by decide +kernel
theorem dX9_crab_80 : decode cX9_crab 80 = .ok (.ifCond .eq 10, 3) := by decide +kernel
theorem dX9_crab_83 : decode cX9_crab 83 = .ok (.aload_n 3, 1) := by decide +kernel
theorem dX9_crab_84 : decode cX9_crab 84 = .ok (.getfield 174, 3) := by decide +kernel
theorem dX9_crab_87 : decode cX9_crab 87 = .ok (.goto 5, 3) := by decide +kernel
theorem dX9_crab_90 : decode cX9_crab 90 = .ok (.bipush (-4), 2) := by decide +kernel
theorem dX9_crab_92 : decode cX9_crab 92 = .ok (.ireturn, 1) := by decide +kernel
theorem dX9_crab_93 : decode cX9_crab 93 = .ok (.iconst (-1), 1) := by decide +kernel
theorem dX9_crab_94 : decode cX9_crab 94 = .ok (.ireturn, 1) := by decide +kernel
theorem dX9_dig_0 : decode cX9_dig 0 = .ok (.aload_n 0, 1) := by decide +kernel
theorem dX9_dig_1 : decode cX9_dig 1 = .ok (.iload_n 1, 1) := by decide +kernel
theorem dX9_dig_2 : decode cX9_dig 2 = .ok (.invokevirtual 115, 3) := by decide +kernel
theorem dX9_dig_5 : decode cX9_dig 5 = .ok (.ifCond .eq 13, 3) := by decide +kernel
theorem dX9_dig_8 : decode cX9_dig 8 = .ok (.iload_n 2, 1) := by decide +kernel
theorem dX9_dig_9 : decode cX9_dig 9 = .ok (.iconst 0, 1) := by decide +kernel
theorem dX9_dig_10 : decode cX9_dig 10 = .ok (.bipush 9, 2) := by decide +kernel
theorem dX9_dig_12 : decode cX9_dig 12 = .ok (.invokestatic 69, 3) := by decide +kernel
theorem dX9_dig_15 : decode cX9_dig 15 = .ok (.ifCond .ne 5, 3) := by decide +kernel
theorem dX9_dig_18 : decode cX9_dig 18 = .ok (.iconst (-1), 1) := by decide +kernel
theorem dX9_dig_19 : decode cX9_dig 19 = .ok (.ireturn, 1) := by decide +kernel
theorem dX9_dig_20 : decode cX9_dig 20 = .ok (.iload_n 2, 1) := by decide +kernel
theorem dX9_dig_21 : decode cX9_dig 21 = .ok (.ifCond .ne 24, 3) := by decide +kernel
theorem dX9_dig_24 : decode cX9_dig 24 = .ok (.aload_n 0, 1) := by decide +kernel
theorem dX9_dig_25 : decode cX9_dig 25 = .ok (.getfield 10, 3) := by decide +kernel
theorem dX9_dig_28 : decode cX9_dig 28 = .ok (.bipush 20, 2) := by decide +kernel
theorem dX9_dig_30 : decode cX9_dig 30 = .ok (.iload_n 1, 1) := by decide +kernel
theorem dX9_dig_31 : decode cX9_dig 31 = .ok (.iadd, 1) := by decide +kernel
theorem dX9_dig_32 : decode cX9_dig 32 = .ok (.bipush 20, 2) := by decide +kernel
theorem dX9_dig_34 : decode cX9_dig 34 = .ok (.iload_n 1, 1) := by decide +kernel
theorem dX9_dig_35 : decode cX9_dig 35 = .ok (.iadd, 1) := by decide +kernel
theorem dX9_dig_36 : decode cX9_dig 36 = .ok (.invokevirtual 177, 3) := by decide +kernel
theorem dX9_dig_39 : decode cX9_dig 39 = .ok (.ifCond .le 6, 3) := by decide +kernel
theorem dX9_dig_42 : decode cX9_dig 42 = .ok (.bipush (-2), 2) := by decide +kernel
theorem dX9_dig_44 : decode cX9_dig 44 = .ok (.ireturn, 1) := by decide +kernel
theorem dX9_dig_45 : decode cX9_dig 45 = .ok (.aload_n 0, 1) := by decide +kernel
theorem dX9_dig_46 : decode cX9_dig 46 = .ok (.getfield 10, 3) := by decide +kernel
theorem dX9_dig_49 : decode cX9_dig 49 = .ok (.getfield 119, 3) := by decide +kernel
theorem dX9_dig_52 : decode cX9_dig 52 = .ok (.iload_n 1, 1) := by decide +kernel
theorem dX9_dig_53 : decode cX9_dig 53 = .ok (.iaload, 1) := by decide +kernel
theorem dX9_dig_54 : decode cX9_dig 54 = .ok (.istore_n 3, 1) := by decide +kernel
theorem dX9_dig_55 : decode cX9_dig 55 = .ok (.aload_n 0, 1) := by decide +kernel
theorem dX9_dig_56 : decode cX9_dig 56 = .ok (.getfield 10, 3) := by decide +kernel
theorem dX9_dig_59 : decode cX9_dig 59 = .ok (.getfield 119, 3) := by decide +kernel
theorem dX9_dig_62 : decode cX9_dig 62 = .ok (.iload_n 1, 1) := by decide +kernel
theorem dX9_dig_63 : decode cX9_dig 63 = .ok (.iload_n 2, 1) := by decide +kernel
theorem dX9_dig_64 : decode cX9_dig 64 = .ok (.iastore, 1) := by decide +kernel
theorem dX9_dig_65 : decode cX9_dig 65 = .ok (.iload_n 3, 1) := by decide +kernel
theorem dX9_dig_66 : decode cX9_dig 66 = .ok (.ireturn, 1) := by decide +kernel
theorem dX9_mint_0 : decode cX9_mint 0 = .ok (.iload_n 1, 1) := by decide +kernel
theorem dX9_mint_1 : decode cX9_mint 1 = .ok (.iconst 1, 1) := by decide +kernel
theorem dX9_mint_2 : decode cX9_mint 2 = .ok (.bipush 9, 2) := by decide +kernel
theorem dX9_mint_4 : decode cX9_mint 4 = .ok (.invokestatic 69, 3) := by decide +kernel
theorem dX9_mint_7 : decode cX9_mint 7 = .ok (.ifCond .eq 11, 3) := by decide +kernel
theorem dX9_mint_10 : decode cX9_mint 10 = .ok (.aload_n 0, 1) := by decide +kernel
theorem dX9_mint_11 : decode cX9_mint 11 = .ok (.iload_n 2, 1) := by decide +kernel
theorem dX9_mint_12 : decode cX9_mint 12 = .ok (.invokevirtual 115, 3) := by decide +kernel
theorem dX9_mint_15 : decode cX9_mint 15 = .ok (.ifCond .ne 5, 3) := by decide +kernel
theorem dX9_mint_18 : decode cX9_mint 18 = .ok (.iconst (-1), 1) := by decide +kernel
theorem dX9_mint_19 : decode cX9_mint 19 = .ok (.ireturn, 1) := by decide +kernel
theorem dX9_mint_20 : decode cX9_mint 20 = .ok (.aload_n 0, 1) := by decide +kernel
theorem dX9_mint_21 : decode cX9_mint 21 = .ok (.getfield 10, 3) := by decide +kernel
theorem dX9_mint_24 : decode cX9_mint 24 = .ok (.getfield 100, 3) := by decide +kernel
theorem dX9_mint_27 : decode cX9_mint 27 = .ok (.bipush 6, 2) := by decide +kernel
theorem dX9_mint_29 : decode cX9_mint 29 = .ok (.if_icmp .lt 6, 3) := by decide +kernel
theorem dX9_mint_32 : decode cX9_mint 32 = .ok (.bipush (-3), 2) := by decide +kernel
theorem dX9_mint_34 : decode cX9_mint 34 = .ok (.ireturn, 1) := by decide +kernel
theorem dX9_mint_35 : decode cX9_mint 35 = .ok (.aload_n 0, 1) := by decide +kernel
theorem dX9_mint_36 : decode cX9_mint 36 = .ok (.getfield 10, 3) := by decide +kernel
theorem dX9_mint_39 : decode cX9_mint 39 = .ok (.iload_n 1, 1) := by decide +kernel
theorem dX9_mint_40 : decode cX9_mint 40 = .ok (.iload_n 2, 1) := by decide +kernel
theorem dX9_mint_41 : decode cX9_mint 41 = .ok (.invokevirtual 181, 3) := by decide +kernel
theorem dX9_mint_44 : decode cX9_mint 44 = .ok (.aload_n 0, 1) := by decide +kernel
theorem dX9_mint_45 : decode cX9_mint 45 = .ok (.getfield 10, 3) := by decide +kernel
theorem dX9_mint_48 : decode cX9_mint 48 = .ok (.getfield 100, 3) := by decide +kernel
theorem dX9_mint_51 : decode cX9_mint 51 = .ok (.ireturn, 1) := by decide +kernel
theorem dX9_lie_0 : decode cX9_lie 0 = .ok (.aload_n 0, 1) := by decide +kernel
theorem dX9_lie_1 : decode cX9_lie 1 = .ok (.iload_n 1, 1) := by decide +kernel
theorem dX9_lie_2 : decode cX9_lie 2 = .ok (.invokevirtual 123, 3) := by decide +kernel
theorem dX9_lie_5 : decode cX9_lie 5 = .ok (.ifCond .eq 11, 3) := by decide +kernel
theorem dX9_lie_8 : decode cX9_lie 8 = .ok (.aload_n 0, 1) := by decide +kernel
theorem dX9_lie_9 : decode cX9_lie 9 = .ok (.iload_n 2, 1) := by decide +kernel
theorem dX9_lie_10 : decode cX9_lie 10 = .ok (.invokevirtual 115, 3) := by decide +kernel
theorem dX9_lie_13 : decode cX9_lie 13 = .ok (.ifCond .ne 5, 3) := by decide +kernel
theorem dX9_lie_16 : decode cX9_lie 16 = .ok (.iconst (-1), 1) := by decide +kernel
theorem dX9_lie_17 : decode cX9_lie 17 = .ok (.ireturn, 1) := by decide +kernel
theorem dX9_lie_18 : decode cX9_lie 18 = .ok (.aload_n 0, 1) := by decide +kernel
theorem dX9_lie_19 : decode cX9_lie 19 = .ok (.getfield 10, 3) := by decide +kernel
theorem dX9_lie_22 : decode cX9_lie 22 = .ok (.getfield 126, 3) := by decide +kernel
theorem dX9_lie_25 : decode cX9_lie 25 = .ok (.iload_n 1, 1) := by decide +kernel
theorem dX9_lie_26 : decode cX9_lie 26 = .ok (.aaload, 1) := by decide +kernel
theorem dX9_lie_27 : decode cX9_lie 27 = .ok (.getfield 142, 3) := by decide +kernel
theorem dX9_lie_30 : decode cX9_lie 30 = .ok (.istore_n 3, 1) := by decide +kernel
theorem dX9_lie_31 : decode cX9_lie 31 = .ok (.aload_n 0, 1) := by decide +kernel
theorem dX9_lie_32 : decode cX9_lie 32 = .ok (.getfield 10, 3) := by decide +kernel
theorem dX9_lie_35 : decode cX9_lie 35 = .ok (.iload_n 1, 1) := by decide +kernel
theorem dX9_lie_36 : decode cX9_lie 36 = .ok (.iload_n 2, 1) := by decide +kernel
theorem dX9_lie_37 : decode cX9_lie 37 = .ok (.invokevirtual 185, 3) := by decide +kernel
theorem dX9_lie_40 : decode cX9_lie 40 = .ok (.iload_n 3, 1) := by decide +kernel
theorem dX9_lie_41 : decode cX9_lie 41 = .ok (.ireturn, 1) := by decide +kernel
theorem dX9_fake_0 : decode cX9_fake 0 = .ok (.aload_n 0, 1) := by decide +kernel
theorem dX9_fake_1 : decode cX9_fake 1 = .ok (.iload_n 1, 1) := by decide +kernel
theorem dX9_fake_2 : decode cX9_fake 2 = .ok (.invokevirtual 123, 3) := by decide +kernel
theorem dX9_fake_5 : decode cX9_fake 5 = .ok (.ifCond .ne 5, 3) := by decide +kernel
theorem dX9_fake_8 : decode cX9_fake 8 = .ok (.iconst (-1), 1) := by decide +kernel
theorem dX9_fake_9 : decode cX9_fake 9 = .ok (.ireturn, 1) := by decide +kernel
theorem dX9_fake_10 : decode cX9_fake 10 = .ok (.aload_n 0, 1) := by decide +kernel
theorem dX9_fake_11 : decode cX9_fake 11 = .ok (.getfield 10, 3) := by decide +kernel
theorem dX9_fake_14 : decode cX9_fake 14 = .ok (.getfield 126, 3) := by decide +kernel
theorem dX9_fake_17 : decode cX9_fake 17 = .ok (.iload_n 1, 1) := by decide +kernel
theorem dX9_fake_18 : decode cX9_fake 18 = .ok (.aaload, 1) := by decide +kernel
theorem dX9_fake_19 : decode cX9_fake 19 = .ok (.getfield 135, 3) := by decide +kernel
theorem dX9_fake_22 : decode cX9_fake 22 = .ok (.invokestatic 138, 3) := by decide +kernel
theorem dX9_fake_25 : decode cX9_fake 25 = .ok (.istore_n 3, 1) := by decide +kernel
theorem dX9_fake_26 : decode cX9_fake 26 = .ok (.aload_n 0, 1) := by decide +kernel
theorem dX9_fake_27 : decode cX9_fake 27 = .ok (.getfield 10, 3) := by decide +kernel
theorem dX9_fake_30 : decode cX9_fake 30 = .ok (.getfield 126, 3) := by decide +kernel
theorem dX9_fake_33 : decode cX9_fake 33 = .ok (.iload_n 1, 1) := by decide +kernel
theorem dX9_fake_34 : decode cX9_fake 34 = .ok (.aaload, 1) := by decide +kernel
theorem dX9_fake_35 : decode cX9_fake 35 = .ok (.iload_n 2, 1) := by decide +kernel
theorem dX9_fake_36 : decode cX9_fake 36 = .ok (.putfield 135, 3) := by decide +kernel
theorem dX9_fake_39 : decode cX9_fake 39 = .ok (.iload_n 3, 1) := by decide +kernel
theorem dX9_fake_40 : decode cX9_fake 40 = .ok (.ireturn, 1) := by decide +kernel
theorem dX9_set_0 : decode cX9_set 0 = .ok (.aload_n 0, 1) := by decide +kernel
theorem dX9_set_1 : decode cX9_set 1 = .ok (.iload_n 1, 1) := by decide +kernel
theorem dX9_set_2 : decode cX9_set 2 = .ok (.invokevirtual 149, 3) := by decide +kernel
theorem dX9_set_5 : decode cX9_set 5 = .ok (.ifCond .eq 11, 3) := by decide +kernel
theorem dX9_set_8 : decode cX9_set 8 = .ok (.aload_n 0, 1) := by decide +kernel
theorem dX9_set_9 : decode cX9_set 9 = .ok (.iload_n 2, 1) := by decide +kernel
theorem dX9_set_10 : decode cX9_set 10 = .ok (.invokevirtual 115, 3) := by decide +kernel
theorem dX9_set_13 : decode cX9_set 13 = .ok (.ifCond .ne 5, 3) := by decide +kernel
theorem dX9_set_16 : decode cX9_set 16 = .ok (.iconst (-1), 1) := by decide +kernel
theorem dX9_set_17 : decode cX9_set 17 = .ok (.ireturn, 1) := by decide +kernel
theorem dX9_set_18 : decode cX9_set 18 = .ok (.aload_n 0, 1) := by decide +kernel
theorem dX9_set_19 : decode cX9_set 19 = .ok (.getfield 10, 3) := by decide +kernel
theorem dX9_set_22 : decode cX9_set 22 = .ok (.getfield 152, 3) := by decide +kernel
theorem dX9_set_25 : decode cX9_set 25 = .ok (.iload_n 1, 1) := by decide +kernel
theorem dX9_set_26 : decode cX9_set 26 = .ok (.aaload, 1) := by decide +kernel
theorem dX9_set_27 : decode cX9_set 27 = .ok (.getfield 167, 3) := by decide +kernel
theorem dX9_set_30 : decode cX9_set 30 = .ok (.istore_n 3, 1) := by decide +kernel
theorem dX9_set_31 : decode cX9_set 31 = .ok (.aload_n 0, 1) := by decide +kernel
theorem dX9_set_32 : decode cX9_set 32 = .ok (.getfield 10, 3) := by decide +kernel
theorem dX9_set_35 : decode cX9_set 35 = .ok (.getfield 152, 3) := by decide +kernel
theorem dX9_set_38 : decode cX9_set 38 = .ok (.iload_n 1, 1) := by decide +kernel
theorem dX9_set_39 : decode cX9_set 39 = .ok (.aaload, 1) := by decide +kernel
theorem dX9_set_40 : decode cX9_set 40 = .ok (.iload_n 2, 1) := by decide +kernel
theorem dX9_set_41 : decode cX9_set 41 = .ok (.putfield 167, 3) := by decide +kernel
theorem dX9_set_44 : decode cX9_set 44 = .ok (.iload_n 3, 1) := by decide +kernel
theorem dX9_set_45 : decode cX9_set 45 = .ok (.ireturn, 1) := by decide +kernel
theorem dX9_hand_0 : decode cX9_hand 0 = .ok (.aload_n 0, 1) := by decide +kernel
theorem dX9_hand_1 : decode cX9_hand 1 = .ok (.iload_n 1, 1) := by decide +kernel
theorem dX9_hand_2 : decode cX9_hand 2 = .ok (.invokevirtual 149, 3) := by decide +kernel
theorem dX9_hand_5 : decode cX9_hand 5 = .ok (.ifCond .eq 12, 3) := by decide +kernel
theorem dX9_hand_8 : decode cX9_hand 8 = .ok (.iload_n 2, 1) := by decide +kernel
theorem dX9_hand_9 : decode cX9_hand 9 = .ok (.iconst 0, 1) := by decide +kernel
theorem dX9_hand_10 : decode cX9_hand 10 = .ok (.iconst 1, 1) := by decide +kernel
theorem dX9_hand_11 : decode cX9_hand 11 = .ok (.invokestatic 69, 3) := by decide +kernel
theorem dX9_hand_14 : decode cX9_hand 14 = .ok (.ifCond .ne 5, 3) := by decide +kernel
theorem dX9_hand_17 : decode cX9_hand 17 = .ok (.iconst (-1), 1) := by decide +kernel
theorem dX9_hand_18 : decode cX9_hand 18 = .ok (.ireturn, 1) := by decide +kernel
theorem dX9_hand_19 : decode cX9_hand 19 = .ok (.aload_n 0, 1) := by decide +kernel
theorem dX9_hand_20 : decode cX9_hand 20 = .ok (.getfield 10, 3) := by decide +kernel
theorem dX9_hand_23 : decode cX9_hand 23 = .ok (.getfield 152, 3) := by decide +kernel
theorem dX9_hand_26 : decode cX9_hand 26 = .ok (.iload_n 1, 1) := by decide +kernel
theorem dX9_hand_27 : decode cX9_hand 27 = .ok (.aaload, 1) := by decide +kernel
theorem dX9_hand_28 : decode cX9_hand 28 = .ok (.getfield 164, 3) := by decide +kernel
theorem dX9_hand_31 : decode cX9_hand 31 = .ok (.istore_n 3, 1) := by decide +kernel
theorem dX9_hand_32 : decode cX9_hand 32 = .ok (.aload_n 0, 1) := by decide +kernel
theorem dX9_hand_33 : decode cX9_hand 33 = .ok (.getfield 10, 3) := by decide +kernel
theorem dX9_hand_36 : decode cX9_hand 36 = .ok (.getfield 152, 3) := by decide +kernel
theorem dX9_hand_39 : decode cX9_hand 39 = .ok (.iload_n 1, 1) := by decide +kernel
theorem dX9_hand_40 : decode cX9_hand 40 = .ok (.aaload, 1) := by decide +kernel
theorem dX9_hand_41 : decode cX9_hand 41 = .ok (.iload_n 2, 1) := by decide +kernel
theorem dX9_hand_42 : decode cX9_hand 42 = .ok (.putfield 164, 3) := by decide +kernel
theorem dX9_hand_45 : decode cX9_hand 45 = .ok (.iload_n 3, 1) := by decide +kernel
theorem dX9_hand_46 : decode cX9_hand 46 = .ok (.ireturn, 1) := by decide +kernel
theorem dX9_tide_0 : decode cX9_tide 0 = .ok (.iload_n 1, 1) := by decide +kernel
theorem dX9_tide_1 : decode cX9_tide 1 = .ok (.iconst 0, 1) := by decide +kernel
theorem dX9_tide_2 : decode cX9_tide 2 = .ok (.bipush 9, 2) := by decide +kernel
theorem dX9_tide_4 : decode cX9_tide 4 = .ok (.invokestatic 69, 3) := by decide +kernel
theorem dX9_tide_7 : decode cX9_tide 7 = .ok (.ifCond .eq 13, 3) := by decide +kernel
theorem dX9_tide_10 : decode cX9_tide 10 = .ok (.iload_n 2, 1) := by decide +kernel
theorem dX9_tide_11 : decode cX9_tide 11 = .ok (.iconst 0, 1) := by decide +kernel
theorem dX9_tide_12 : decode cX9_tide 12 = .ok (.bipush 8, 2) := by decide +kernel
theorem dX9_tide_14 : decode cX9_tide 14 = .ok (.invokestatic 69, 3) := by decide +kernel
theorem dX9_tide_17 : decode cX9_tide 17 = .ok (.ifCond .ne 5, 3) := by decide +kernel
theorem dX9_tide_20 : decode cX9_tide 20 = .ok (.iconst (-1), 1) := by decide +kernel
theorem dX9_tide_21 : decode cX9_tide 21 = .ok (.ireturn, 1) := by decide +kernel
theorem dX9_tide_22 : decode cX9_tide 22 = .ok (.aload_n 0, 1) := by decide +kernel
theorem dX9_tide_23 : decode cX9_tide 23 = .ok (.getfield 10, 3) := by decide +kernel
theorem dX9_tide_26 : decode cX9_tide 26 = .ok (.getfield 106, 3) := by decide +kernel
theorem dX9_tide_29 : decode cX9_tide 29 = .ok (.istore_n 3, 1) := by decide +kernel
theorem dX9_tide_30 : decode cX9_tide 30 = .ok (.aload_n 0, 1) := by decide +kernel
theorem dX9_tide_31 : decode cX9_tide 31 = .ok (.getfield 10, 3) := by decide +kernel
theorem dX9_tide_34 : decode cX9_tide 34 = .ok (.iload_n 1, 1) := by decide +kernel
theorem dX9_tide_35 : decode cX9_tide 35 = .ok (.putfield 106, 3) := by decide +kernel
theorem dX9_tide_38 : decode cX9_tide 38 = .ok (.aload_n 0, 1) := by decide +kernel
theorem dX9_tide_39 : decode cX9_tide 39 = .ok (.getfield 10, 3) := by decide +kernel
theorem dX9_tide_42 : decode cX9_tide 42 = .ok (.iload_n 2, 1) := by decide +kernel
theorem dX9_tide_43 : decode cX9_tide 43 = .ok (.putfield 109, 3) := by decide +kernel
theorem dX9_tide_46 : decode cX9_tide 46 = .ok (.iload_n 3, 1) := by decide +kernel
theorem dX9_tide_47 : decode cX9_tide 47 = .ok (.ireturn, 1) := by decide +kernel
theorem dX9_go_0 : decode cX9_go 0 = .ok (.iload_n 1, 1) := by decide +kernel
theorem dX9_go_1 : decode cX9_go 1 = .ok (.iconst 0, 1) := by decide +kernel
theorem dX9_go_2 : decode cX9_go 2 = .ok (.bipush 60, 2) := by decide +kernel
theorem dX9_go_4 : decode cX9_go 4 = .ok (.invokestatic 69, 3) := by decide +kernel
theorem dX9_go_7 : decode cX9_go 7 = .ok (.ifCond .ne 5, 3) := by decide +kernel
theorem dX9_go_10 : decode cX9_go 10 = .ok (.iconst (-1), 1) := by decide +kernel
theorem dX9_go_11 : decode cX9_go 11 = .ok (.ireturn, 1) := by decide +kernel
theorem dX9_go_12 : decode cX9_go 12 = .ok (.aload_n 0, 1) := by decide +kernel
theorem dX9_go_13 : decode cX9_go 13 = .ok (.getfield 10, 3) := by decide +kernel
theorem dX9_go_16 : decode cX9_go 16 = .ok (.getfield 112, 3) := by decide +kernel
theorem dX9_go_19 : decode cX9_go 19 = .ok (.iload_n 1, 1) := by decide +kernel
theorem dX9_go_20 : decode cX9_go 20 = .ok (.iadd, 1) := by decide +kernel
theorem dX9_go_21 : decode cX9_go 21 = .ok (.sipush 1000, 3) := by decide +kernel
theorem dX9_go_24 : decode cX9_go 24 = .ok (.if_icmp .lt 6, 3) := by decide +kernel
theorem dX9_go_27 : decode cX9_go 27 = .ok (.bipush (-3), 2) := by decide +kernel
theorem dX9_go_29 : decode cX9_go 29 = .ok (.ireturn, 1) := by decide +kernel
theorem dX9_go_30 : decode cX9_go 30 = .ok (.aload_n 0, 1) := by decide +kernel
theorem dX9_go_31 : decode cX9_go 31 = .ok (.getfield 10, 3) := by decide +kernel
theorem dX9_go_34 : decode cX9_go 34 = .ok (.iload_n 1, 1) := by decide +kernel
theorem dX9_go_35 : decode cX9_go 35 = .ok (.invokevirtual 188, 3) := by decide +kernel
theorem dX9_go_38 : decode cX9_go 38 = .ok (.aload_n 0, 1) := by decide +kernel
theorem dX9_go_39 : decode cX9_go 39 = .ok (.getfield 10, 3) := by decide +kernel
theorem dX9_go_42 : decode cX9_go 42 = .ok (.invokevirtual 192, 3) := by decide +kernel
theorem dX9_go_45 : decode cX9_go 45 = .ok (.ireturn, 1) := by decide +kernel
theorem dX9_ahead_0 : decode cX9_ahead 0 = .ok (.aload_n 0, 1) := by decide +kernel
theorem dX9_ahead_1 : decode cX9_ahead 1 = .ok (.iload_n 1, 1) := by decide +kernel
theorem dX9_ahead_2 : decode cX9_ahead 2 = .ok (.invokevirtual 123, 3) := by decide +kernel
theorem dX9_ahead_5 : decode cX9_ahead 5 = .ok (.ifCond .eq 13, 3) := by decide +kernel
theorem dX9_ahead_8 : decode cX9_ahead 8 = .ok (.iload_n 2, 1) := by decide +kernel
theorem dX9_ahead_9 : decode cX9_ahead 9 = .ok (.iconst 0, 1) := by decide +kernel
theorem dX9_ahead_10 : decode cX9_ahead 10 = .ok (.bipush 60, 2) := by decide +kernel
theorem dX9_ahead_12 : decode cX9_ahead 12 = .ok (.invokestatic 69, 3) := by decide +kernel
theorem dX9_ahead_15 : decode cX9_ahead 15 = .ok (.ifCond .ne 5, 3) := by decide +kernel
theorem dX9_ahead_18 : decode cX9_ahead 18 = .ok (.iconst (-1), 1) := by decide +kernel
theorem dX9_ahead_19 : decode cX9_ahead 19 = .ok (.ireturn, 1) := by decide +kernel
theorem dX9_ahead_20 : decode cX9_ahead 20 = .ok (.aload_n 0, 1) := by decide +kernel
theorem dX9_ahead_21 : decode cX9_ahead 21 = .ok (.getfield 16, 3) := by decide +kernel
theorem dX9_ahead_24 : decode cX9_ahead 24 = .ok (.aload_n 0, 1) := by decide +kernel
theorem dX9_ahead_25 : decode cX9_ahead 25 = .ok (.getfield 10, 3) := by decide +kernel
theorem dX9_ahead_28 : decode cX9_ahead 28 = .ok (.invokevirtual 86, 3) := by decide +kernel
theorem dX9_ahead_31 : decode cX9_ahead 31 = .ok (.aload_n 0, 1) := by decide +kernel
theorem dX9_ahead_32 : decode cX9_ahead 32 = .ok (.getfield 16, 3) := by decide +kernel
theorem dX9_ahead_35 : decode cX9_ahead 35 = .ok (.iload_n 2, 1) := by decide +kernel
theorem dX9_ahead_36 : decode cX9_ahead 36 = .ok (.invokevirtual 188, 3) := by decide +kernel
theorem dX9_ahead_39 : decode cX9_ahead 39 = .ok (.aload_n 0, 1) := by decide +kernel
theorem dX9_ahead_40 : decode cX9_ahead 40 = .ok (.getfield 16, 3) := by decide +kernel
theorem dX9_ahead_43 : decode cX9_ahead 43 = .ok (.getfield 126, 3) := by decide +kernel
theorem dX9_ahead_46 : decode cX9_ahead 46 = .ok (.iload_n 1, 1) := by decide +kernel
theorem dX9_ahead_47 : decode cX9_ahead 47 = .ok (.aaload, 1) := by decide +kernel
theorem dX9_ahead_48 : decode cX9_ahead 48 = .ok (.getfield 142, 3) := by decide +kernel
theorem dX9_ahead_51 : decode cX9_ahead 51 = .ok (.ireturn, 1) := by decide +kernel
theorem dX9_grow_0 : decode cX9_grow 0 = .ok (.aload_n 0, 1) := by decide +kernel
theorem dX9_grow_1 : decode cX9_grow 1 = .ok (.getfield 10, 3) := by decide +kernel
theorem dX9_grow_4 : decode cX9_grow 4 = .ok (.getfield 103, 3) := by decide +kernel
theorem dX9_grow_7 : decode cX9_grow 7 = .ok (.ifCond .ne 6, 3) := by decide +kernel
theorem dX9_grow_10 : decode cX9_grow 10 = .ok (.bipush (-2), 2) := by decide +kernel
theorem dX9_grow_12 : decode cX9_grow 12 = .ok (.ireturn, 1) := by decide +kernel
theorem dX9_grow_13 : decode cX9_grow 13 = .ok (.aload_n 0, 1) := by decide +kernel
theorem dX9_grow_14 : decode cX9_grow 14 = .ok (.getfield 10, 3) := by decide +kernel
theorem dX9_grow_17 : decode cX9_grow 17 = .ok (.iconst 1, 1) := by decide +kernel
theorem dX9_grow_18 : decode cX9_grow 18 = .ok (.invokevirtual 195, 3) := by decide +kernel
theorem dX9_grow_21 : decode cX9_grow 21 = .ok (.aload_n 0, 1) := by decide +kernel
theorem dX9_grow_22 : decode cX9_grow 22 = .ok (.getfield 10, 3) := by decide +kernel
theorem dX9_grow_25 : decode cX9_grow 25 = .ok (.invokevirtual 198, 3) := by decide +kernel
theorem dX9_grow_28 : decode cX9_grow 28 = .ok (.ireturn, 1) := by decide +kernel
theorem dX9_sorted_0 : decode cX9_sorted 0 = .ok (.aload_n 0, 1) := by decide +kernel
theorem dX9_sorted_1 : decode cX9_sorted 1 = .ok (.getfield 16, 3) := by decide +kernel
theorem dX9_sorted_4 : decode cX9_sorted 4 = .ok (.aload_n 0, 1) := by decide +kernel
theorem dX9_sorted_5 : decode cX9_sorted 5 = .ok (.getfield 10, 3) := by decide +kernel
theorem dX9_sorted_8 : decode cX9_sorted 8 = .ok (.invokevirtual 86, 3) := by decide +kernel
theorem dX9_sorted_11 : decode cX9_sorted 11 = .ok (.aload_n 0, 1) := by decide +kernel
theorem dX9_sorted_12 : decode cX9_sorted 12 = .ok (.getfield 16, 3) := by decide +kernel
theorem dX9_sorted_15 : decode cX9_sorted 15 = .ok (.bipush 40, 2) := by decide +kernel
theorem dX9_sorted_17 : decode cX9_sorted 17 = .ok (.invokevirtual 201, 3) := by decide +kernel
theorem dX9_sorted_20 : decode cX9_sorted 20 = .ok (.ireturn, 1) := by decide +kernel
theorem dX9_orders_0 : decode cX9_orders 0 = .ok (.iload_n 1, 1) := by decide +kernel
theorem dX9_orders_1 : decode cX9_orders 1 = .ok (.iconst 0, 1) := by decide +kernel
theorem dX9_orders_2 : decode cX9_orders 2 = .ok (.iconst 1, 1) := by decide +kernel
theorem dX9_orders_3 : decode cX9_orders 3 = .ok (.invokestatic 69, 3) := by decide +kernel
theorem dX9_orders_6 : decode cX9_orders 6 = .ok (.ifCond .ne 16, 3) := by decide +kernel
theorem dX9_orders_9 : decode cX9_orders 9 = .ok (.iload_n 1, 1) := by decide +kernel
theorem dX9_orders_10 : decode cX9_orders 10 = .ok (.bipush 10, 2) := by decide +kernel
theorem dX9_orders_12 : decode cX9_orders 12 = .ok (.bipush 13, 2) := by decide +kernel
theorem dX9_orders_14 : decode cX9_orders 14 = .ok (.invokestatic 69, 3) := by decide +kernel
theorem dX9_orders_17 : decode cX9_orders 17 = .ok (.ifCond .ne 5, 3) := by decide +kernel
theorem dX9_orders_20 : decode cX9_orders 20 = .ok (.iconst (-1), 1) := by decide +kernel
theorem dX9_orders_21 : decode cX9_orders 21 = .ok (.ireturn, 1) := by decide +kernel
theorem dX9_orders_22 : decode cX9_orders 22 = .ok (.aload_n 0, 1) := by decide +kernel
theorem dX9_orders_23 : decode cX9_orders 23 = .ok (.getfield 29, 3) := by decide +kernel
theorem dX9_orders_26 : decode cX9_orders 26 = .ok (.aload_n 0, 1) := by decide +kernel
theorem dX9_orders_27 : decode cX9_orders 27 = .ok (.getfield 10, 3) := by decide +kernel
theorem dX9_orders_30 : decode cX9_orders 30 = .ok (.aload_n 0, 1) := by decide +kernel
theorem dX9_orders_31 : decode cX9_orders 31 = .ok (.getfield 16, 3) := by decide +kernel
theorem dX9_orders_34 : decode cX9_orders 34 = .ok (.invokevirtual 205, 3) := by decide +kernel
theorem dX9_orders_37 : decode cX9_orders 37 = .ok (.iload_n 1, 1) := by decide +kernel
theorem dX9_orders_38 : decode cX9_orders 38 = .ok (.ifCond .ne 11, 3) := by decide +kernel
theorem dX9_orders_41 : decode cX9_orders 41 = .ok (.aload_n 0, 1) := by decide +kernel
theorem dX9_orders_42 : decode cX9_orders 42 = .ok (.getfield 29, 3) := by decide +kernel
theorem dX9_orders_45 : decode cX9_orders 45 = .ok (.getfield 209, 3) := by decide +kernel
theorem dX9_orders_48 : decode cX9_orders 48 = .ok (.ireturn, 1) := by decide +kernel
theorem dX9_orders_49 : decode cX9_orders 49 = .ok (.aload_n 0, 1) := by decide +kernel
theorem dX9_orders_50 : decode cX9_orders 50 = .ok (.getfield 29, 3) := by decide +kernel
theorem dX9_orders_53 : decode cX9_orders 53 = .ok (.getfield 209, 3) := by decide +kernel
theorem dX9_orders_56 : decode cX9_orders 56 = .ok (.ifCond .ne 6, 3) := by decide +kernel
theorem dX9_orders_59 : decode cX9_orders 59 = .ok (.bipush (-4), 2) := by decide +kernel
theorem dX9_orders_61 : decode cX9_orders 61 = .ok (.ireturn, 1) := by decide +kernel
theorem dX9_orders_62 : decode cX9_orders 62 = .ok (.iload_n 1, 1) := by decide +kernel
theorem dX9_orders_63 : decode cX9_orders 63 = .ok (.iconst 1, 1) := by decide +kernel
theorem dX9_orders_64 : decode cX9_orders 64 = .ok (.if_icmp .ne 11, 3) := by decide +kernel
theorem dX9_orders_67 : decode cX9_orders 67 = .ok (.aload_n 0, 1) := by decide +kernel
theorem dX9_orders_68 : decode cX9_orders 68 = .ok (.getfield 29, 3) := by decide +kernel
theorem dX9_orders_71 : decode cX9_orders 71 = .ok (.getfield 210, 3) := by decide +kernel
theorem dX9_orders_74 : decode cX9_orders 74 = .ok (.ireturn, 1) := by decide +kernel
theorem dX9_orders_75 : decode cX9_orders 75 = .ok (.iload_n 1, 1) := by decide +kernel
theorem dX9_orders_76 : decode cX9_orders 76 = .ok (.bipush 10, 2) := by decide +kernel
theorem dX9_orders_78 : decode cX9_orders 78 = .ok (.isub, 1) := by decide +kernel
theorem dX9_orders_79 : decode cX9_orders 79 = .ok (.istore_n 2, 1) := by decide +kernel
theorem dX9_orders_80 : decode cX9_orders 80 = .ok (.iload_n 2, 1) := by decide +kernel
theorem dX9_orders_81 : decode cX9_orders 81 = .ok (.aload_n 0, 1) := by decide +kernel
theorem dX9_orders_82 : decode cX9_orders 82 = .ok (.getfield 10, 3) := by decide +kernel
theorem dX9_orders_85 : decode cX9_orders 85 = .ok (.getfield 103, 3) := by decide +kernel
theorem dX9_orders_88 : decode cX9_orders 88 = .ok (.if_icmp .ge 15, 3) := by decide +kernel
theorem dX9_orders_91 : decode cX9_orders 91 = .ok (.aload_n 0, 1) := by decide +kernel
theorem dX9_orders_92 : decode cX9_orders 92 = .ok (.getfield 29, 3) := by decide +kernel
theorem dX9_orders_95 : decode cX9_orders 95 = .ok (.getfield 213, 3) := by decide +kernel
theorem dX9_orders_98 : decode cX9_orders 98 = .ok (.iload_n 2, 1) := by decide +kernel
theorem dX9_orders_99 : decode cX9_orders 99 = .ok (.iaload, 1) := by decide +kernel
theorem dX9_orders_100 : decode cX9_orders 100 = .ok (.goto 5, 3) := by decide +kernel
theorem dX9_orders_103 : decode cX9_orders 103 = .ok (.bipush (-4), 2) := by decide +kernel
theorem dX9_orders_105 : decode cX9_orders 105 = .ok (.ireturn, 1) := by decide +kernel
theorem dX9_fewest_0 : decode cX9_fewest 0 = .ok (.iload_n 1, 1) := by decide +kernel
theorem dX9_fewest_1 : decode cX9_fewest 1 = .ok (.iconst 0, 1) := by decide +kernel
theorem dX9_fewest_2 : decode cX9_fewest 2 = .ok (.iconst 1, 1) := by decide +kernel
theorem dX9_fewest_3 : decode cX9_fewest 3 = .ok (.invokestatic 69, 3) := by decide +kernel
theorem dX9_fewest_6 : decode cX9_fewest 6 = .ok (.ifCond .ne 5, 3) := by decide +kernel
theorem dX9_fewest_9 : decode cX9_fewest 9 = .ok (.iconst (-1), 1) := by decide +kernel
theorem dX9_fewest_10 : decode cX9_fewest 10 = .ok (.ireturn, 1) := by decide +kernel
theorem dX9_fewest_11 : decode cX9_fewest 11 = .ok (.bipush (-4), 2) := by decide +kernel
theorem dX9_fewest_13 : decode cX9_fewest 13 = .ok (.istore_n 2, 1) := by decide +kernel
theorem dX9_fewest_14 : decode cX9_fewest 14 = .ok (.aload_n 0, 1) := by decide +kernel
theorem dX9_fewest_15 : decode cX9_fewest 15 = .ok (.getfield 10, 3) := by decide +kernel
theorem dX9_fewest_18 : decode cX9_fewest 18 = .ok (.getfield 103, 3) := by decide +kernel
theorem dX9_fewest_21 : decode cX9_fewest 21 = .ok (.iconst 1, 1) := by decide +kernel
theorem dX9_fewest_22 : decode cX9_fewest 22 = .ok (.iadd, 1) := by decide +kernel
theorem dX9_fewest_23 : decode cX9_fewest 23 = .ok (.istore_n 3, 1) := by decide +kernel
theorem dX9_fewest_24 : decode cX9_fewest 24 = .ok (.iconst 0, 1) := by decide +kernel
theorem dX9_fewest_25 : decode cX9_fewest 25 = .ok (.istore 4, 2) := by decide +kernel
theorem dX9_fewest_27 : decode cX9_fewest 27 = .ok (.iload 4, 2) := by decide +kernel
theorem dX9_fewest_29 : decode cX9_fewest 29 = .ok (.iconst 1, 1) := by decide +kernel
theorem dX9_fewest_30 : decode cX9_fewest 30 = .ok (.aload_n 0, 1) := by decide +kernel
theorem dX9_fewest_31 : decode cX9_fewest 31 = .ok (.getfield 10, 3) := by decide +kernel
theorem dX9_fewest_34 : decode cX9_fewest 34 = .ok (.getfield 103, 3) := by decide +kernel
theorem dX9_fewest_37 : decode cX9_fewest 37 = .ok (.ishl, 1) := by decide +kernel
theorem dX9_fewest_38 : decode cX9_fewest 38 = .ok (.if_icmp .ge 36, 3) := by decide +kernel
theorem dX9_fewest_41 : decode cX9_fewest 41 = .ok (.iload 4, 2) := by decide +kernel
theorem dX9_fewest_43 : decode cX9_fewest 43 = .ok (.invokestatic 216, 3) := by decide +kernel
theorem dX9_fewest_46 : decode cX9_fewest 46 = .ok (.iload_n 3, 1) := by decide +kernel
theorem dX9_fewest_47 : decode cX9_fewest 47 = .ok (.if_icmp .ge 21, 3) := by decide +kernel
theorem dX9_fewest_50 : decode cX9_fewest 50 = .ok (.aload_n 0, 1) := by decide +kernel
theorem dX9_fewest_51 : decode cX9_fewest 51 = .ok (.iload 4, 2) := by decide +kernel
theorem dX9_fewest_53 : decode cX9_fewest 53 = .ok (.invokevirtual 221, 3) := by decide +kernel
theorem dX9_fewest_56 : decode cX9_fewest 56 = .ok (.ifCond .eq 12, 3) := by decide +kernel
theorem dX9_fewest_59 : decode cX9_fewest 59 = .ok (.iload 4, 2) := by decide +kernel
theorem dX9_fewest_61 : decode cX9_fewest 61 = .ok (.istore_n 2, 1) := by decide +kernel
theorem dX9_fewest_62 : decode cX9_fewest 62 = .ok (.iload 4, 2) := by decide +kernel
theorem dX9_fewest_64 : decode cX9_fewest 64 = .ok (.invokestatic 216, 3) := by decide +kernel
theorem dX9_fewest_67 : decode cX9_fewest 67 = .ok (.istore_n 3, 1) := by decide +kernel
theorem dX9_fewest_68 : decode cX9_fewest 68 = .ok (.iinc 4 1, 3) := by decide +kernel
theorem dX9_fewest_71 : decode cX9_fewest 71 = .ok (.goto (-44), 3) := by decide +kernel
theorem dX9_fewest_74 : decode cX9_fewest 74 = .ok (.iload_n 2, 1) := by decide +kernel
theorem dX9_fewest_75 : decode cX9_fewest 75 = .ok (.bipush (-4), 2) := by decide +kernel
theorem dX9_fewest_77 : decode cX9_fewest 77 = .ok (.if_icmp .eq 8, 3) := by decide +kernel
theorem dX9_fewest_80 : decode cX9_fewest 80 = .ok (.iload_n 1, 1) := by decide +kernel
theorem dX9_fewest_81 : decode cX9_fewest 81 = .ok (.iconst 1, 1) := by decide +kernel
theorem dX9_fewest_82 : decode cX9_fewest 82 = .ok (.if_icmp .ne 7, 3) := by decide +kernel
theorem dX9_fewest_85 : decode cX9_fewest 85 = .ok (.iload_n 2, 1) := by decide +kernel
theorem dX9_fewest_86 : decode cX9_fewest 86 = .ok (.goto 4, 3) := by decide +kernel
theorem dX9_fewest_89 : decode cX9_fewest 89 = .ok (.iload_n 3, 1) := by decide +kernel
theorem dX9_fewest_90 : decode cX9_fewest 90 = .ok (.ireturn, 1) := by decide +kernel
theorem dX9_better_0 : decode cX9_better 0 = .ok (.iload_n 1, 1) := by decide +kernel
theorem dX9_better_1 : decode cX9_better 1 = .ok (.iconst 0, 1) := by decide +kernel
theorem dX9_better_2 : decode cX9_better 2 = .ok (.iconst 1, 1) := by decide +kernel
theorem dX9_better_3 : decode cX9_better 3 = .ok (.invokestatic 69, 3) := by decide +kernel
theorem dX9_better_6 : decode cX9_better 6 = .ok (.ifCond .ne 5, 3) := by decide +kernel
theorem dX9_better_9 : decode cX9_better 9 = .ok (.iconst (-1), 1) := by decide +kernel
theorem dX9_better_10 : decode cX9_better 10 = .ok (.ireturn, 1) := by decide +kernel
theorem dX9_better_11 : decode cX9_better 11 = .ok (.aload_n 0, 1) := by decide +kernel
theorem dX9_better_12 : decode cX9_better 12 = .ok (.getfield 16, 3) := by decide +kernel
theorem dX9_better_15 : decode cX9_better 15 = .ok (.aload_n 0, 1) := by decide +kernel
theorem dX9_better_16 : decode cX9_better 16 = .ok (.getfield 10, 3) := by decide +kernel
theorem dX9_better_19 : decode cX9_better 19 = .ok (.invokevirtual 86, 3) := by decide +kernel
theorem dX9_better_22 : decode cX9_better 22 = .ok (.aload_n 0, 1) := by decide +kernel
theorem dX9_better_23 : decode cX9_better 23 = .ok (.getfield 16, 3) := by decide +kernel
theorem dX9_better_26 : decode cX9_better 26 = .ok (.bipush 40, 2) := by decide +kernel
theorem dX9_better_28 : decode cX9_better 28 = .ok (.invokevirtual 201, 3) := by decide +kernel
theorem dX9_better_31 : decode cX9_better 31 = .ok (.istore_n 2, 1) := by decide +kernel
theorem dX9_better_32 : decode cX9_better 32 = .ok (.iload_n 2, 1) := by decide +kernel
theorem dX9_better_33 : decode cX9_better 33 = .ok (.bipush (-4), 2) := by decide +kernel
theorem dX9_better_35 : decode cX9_better 35 = .ok (.if_icmp .ne 8, 3) := by decide +kernel
theorem dX9_better_38 : decode cX9_better 38 = .ok (.bipush 41, 2) := by decide +kernel
theorem dX9_better_40 : decode cX9_better 40 = .ok (.goto 4, 3) := by decide +kernel
theorem dX9_better_43 : decode cX9_better 43 = .ok (.iload_n 2, 1) := by decide +kernel
theorem dX9_better_44 : decode cX9_better 44 = .ok (.istore_n 3, 1) := by decide +kernel
theorem dX9_better_45 : decode cX9_better 45 = .ok (.bipush (-4), 2) := by decide +kernel
theorem dX9_better_47 : decode cX9_better 47 = .ok (.istore 4, 2) := by decide +kernel
theorem dX9_better_49 : decode cX9_better 49 = .ok (.iconst 0, 1) := by decide +kernel
theorem dX9_better_50 : decode cX9_better 50 = .ok (.istore 5, 2) := by decide +kernel
theorem dX9_better_52 : decode cX9_better 52 = .ok (.iload 5, 2) := by decide +kernel
theorem dX9_better_54 : decode cX9_better 54 = .ok (.aload_n 0, 1) := by decide +kernel
theorem dX9_better_55 : decode cX9_better 55 = .ok (.getfield 10, 3) := by decide +kernel
theorem dX9_better_58 : decode cX9_better 58 = .ok (.getfield 97, 3) := by decide +kernel
theorem dX9_better_61 : decode cX9_better 61 = .ok (.if_icmp .ge 78, 3) := by decide +kernel
theorem dX9_better_64 : decode cX9_better 64 = .ok (.iconst 1, 1) := by decide +kernel
theorem dX9_better_65 : decode cX9_better 65 = .ok (.istore 6, 2) := by decide +kernel
theorem dX9_better_67 : decode cX9_better 67 = .ok (.iload 6, 2) := by decide +kernel
theorem dX9_better_69 : decode cX9_better 69 = .ok (.bipush 9, 2) := by decide +kernel
theorem dX9_better_71 : decode cX9_better 71 = .ok (.if_icmp .gt 62, 3) := by decide +kernel
theorem dX9_better_74 : decode cX9_better 74 = .ok (.iload 6, 2) := by decide +kernel
theorem dX9_better_76 : decode cX9_better 76 = .ok (.aload_n 0, 1) := by decide +kernel
theorem dX9_better_77 : decode cX9_better 77 = .ok (.getfield 10, 3) := by decide +kernel
theorem dX9_better_80 : decode cX9_better 80 = .ok (.getfield 119, 3) := by decide +kernel
theorem dX9_better_83 : decode cX9_better 83 = .ok (.iload 5, 2) := by decide +kernel
theorem dX9_better_85 : decode cX9_better 85 = .ok (.iaload, 1) := by decide +kernel
theorem dX9_better_86 : decode cX9_better 86 = .ok (.if_icmp .ne 8, 3) := by decide +kernel
theorem dX9_better_89 : decode cX9_better 89 = .ok (.bipush (-4), 2) := by decide +kernel
theorem dX9_better_91 : decode cX9_better 91 = .ok (.goto 14, 3) := by decide +kernel
theorem dX9_better_94 : decode cX9_better 94 = .ok (.aload_n 0, 1) := by decide +kernel
theorem dX9_better_95 : decode cX9_better 95 = .ok (.iload 5, 2) := by decide +kernel
theorem dX9_better_97 : decode cX9_better 97 = .ok (.iload 6, 2) := by decide +kernel
theorem dX9_better_99 : decode cX9_better 99 = .ok (.iload_n 3, 1) := by decide +kernel
theorem dX9_better_100 : decode cX9_better 100 = .ok (.iconst 1, 1) := by decide +kernel
theorem dX9_better_101 : decode cX9_better 101 = .ok (.isub, 1) := by decide +kernel
theorem dX9_better_102 : decode cX9_better 102 = .ok (.invokevirtual 224, 3) := by decide +kernel
theorem dX9_better_105 : decode cX9_better 105 = .ok (.istore 7, 2) := by decide +kernel
theorem dX9_better_107 : decode cX9_better 107 = .ok (.iload 7, 2) := by decide +kernel
theorem dX9_better_109 : decode cX9_better 109 = .ok (.bipush (-4), 2) := by decide +kernel
theorem dX9_better_111 : decode cX9_better 111 = .ok (.if_icmp .eq 16, 3) := by decide +kernel
theorem dX9_better_114 : decode cX9_better 114 = .ok (.iload 7, 2) := by decide +kernel
theorem dX9_better_116 : decode cX9_better 116 = .ok (.istore_n 3, 1) := by decide +kernel
theorem dX9_better_117 : decode cX9_better 117 = .ok (.bipush 10, 2) := by decide +kernel
theorem dX9_better_119 : decode cX9_better 119 = .ok (.iload 5, 2) := by decide +kernel
theorem dX9_better_121 : decode cX9_better 121 = .ok (.imul, 1) := by decide +kernel
theorem dX9_better_122 : decode cX9_better 122 = .ok (.iload 6, 2) := by decide +kernel
theorem dX9_better_124 : decode cX9_better 124 = .ok (.iadd, 1) := by decide +kernel
theorem dX9_better_125 : decode cX9_better 125 = .ok (.istore 4, 2) := by decide +kernel
theorem dX9_better_127 : decode cX9_better 127 = .ok (.iinc 6 1, 3) := by decide +kernel
theorem dX9_better_130 : decode cX9_better 130 = .ok (.goto (-63), 3) := by decide +kernel
theorem dX9_better_133 : decode cX9_better 133 = .ok (.iinc 5 1, 3) := by decide +kernel
theorem dX9_better_136 : decode cX9_better 136 = .ok (.goto (-84), 3) := by decide +kernel
theorem dX9_better_139 : decode cX9_better 139 = .ok (.iload 4, 2) := by decide +kernel
theorem dX9_better_141 : decode cX9_better 141 = .ok (.bipush (-4), 2) := by decide +kernel
theorem dX9_better_143 : decode cX9_better 143 = .ok (.if_icmp .eq 7, 3) := by decide +kernel
theorem dX9_better_146 : decode cX9_better 146 = .ok (.iload_n 1, 1) := by decide +kernel
theorem dX9_better_147 : decode cX9_better 147 = .ok (.ifCond .ne 8, 3) := by decide +kernel
theorem dX9_better_150 : decode cX9_better 150 = .ok (.iload 4, 2) := by decide +kernel
theorem dX9_better_152 : decode cX9_better 152 = .ok (.goto 4, 3) := by decide +kernel
theorem dX9_better_155 : decode cX9_better 155 = .ok (.iload_n 3, 1) := by decide +kernel
theorem dX9_better_156 : decode cX9_better 156 = .ok (.ireturn, 1) := by decide +kernel
theorem dX9_weeks_0 : decode cX9_weeks 0 = .ok (.iconst 0, 1) := by decide +kernel
theorem dX9_weeks_1 : decode cX9_weeks 1 = .ok (.istore_n 1, 1) := by decide +kernel
theorem dX9_weeks_2 : decode cX9_weeks 2 = .ok (.iconst 0, 1) := by decide +kernel
theorem dX9_weeks_3 : decode cX9_weeks 3 = .ok (.istore_n 2, 1) := by decide +kernel
theorem dX9_weeks_4 : decode cX9_weeks 4 = .ok (.iload_n 2, 1) := by decide +kernel
theorem dX9_weeks_5 : decode cX9_weeks 5 = .ok (.bipush 8, 2) := by decide +kernel
theorem dX9_weeks_7 : decode cX9_weeks 7 = .ok (.if_icmp .gt 48, 3) := by decide +kernel
theorem dX9_weeks_10 : decode cX9_weeks 10 = .ok (.aload_n 0, 1) := by decide +kernel
theorem dX9_weeks_11 : decode cX9_weeks 11 = .ok (.getfield 16, 3) := by decide +kernel
theorem dX9_weeks_14 : decode cX9_weeks 14 = .ok (.aload_n 0, 1) := by decide +kernel
theorem dX9_weeks_15 : decode cX9_weeks 15 = .ok (.getfield 10, 3) := by decide +kernel
theorem dX9_weeks_18 : decode cX9_weeks 18 = .ok (.invokevirtual 86, 3) := by decide +kernel
theorem dX9_weeks_21 : decode cX9_weeks 21 = .ok (.aload_n 0, 1) := by decide +kernel
theorem dX9_weeks_22 : decode cX9_weeks 22 = .ok (.getfield 16, 3) := by decide +kernel
theorem dX9_weeks_25 : decode cX9_weeks 25 = .ok (.iload_n 2, 1) := by decide +kernel
theorem dX9_weeks_26 : decode cX9_weeks 26 = .ok (.invokevirtual 195, 3) := by decide +kernel
theorem dX9_weeks_29 : decode cX9_weeks 29 = .ok (.aload_n 0, 1) := by decide +kernel
theorem dX9_weeks_30 : decode cX9_weeks 30 = .ok (.getfield 16, 3) := by decide +kernel
theorem dX9_weeks_33 : decode cX9_weeks 33 = .ok (.bipush 40, 2) := by decide +kernel
theorem dX9_weeks_35 : decode cX9_weeks 35 = .ok (.invokevirtual 201, 3) := by decide +kernel
theorem dX9_weeks_38 : decode cX9_weeks 38 = .ok (.bipush (-4), 2) := by decide +kernel
theorem dX9_weeks_40 : decode cX9_weeks 40 = .ok (.if_icmp .eq 9, 3) := by decide +kernel
theorem dX9_weeks_43 : decode cX9_weeks 43 = .ok (.iload_n 1, 1) := by decide +kernel
theorem dX9_weeks_44 : decode cX9_weeks 44 = .ok (.iconst 1, 1) := by decide +kernel
theorem dX9_weeks_45 : decode cX9_weeks 45 = .ok (.iload_n 2, 1) := by decide +kernel
theorem dX9_weeks_46 : decode cX9_weeks 46 = .ok (.ishl, 1) := by decide +kernel
theorem dX9_weeks_47 : decode cX9_weeks 47 = .ok (.ior, 1) := by decide +kernel
theorem dX9_weeks_48 : decode cX9_weeks 48 = .ok (.istore_n 1, 1) := by decide +kernel
theorem dX9_weeks_49 : decode cX9_weeks 49 = .ok (.iinc 2 1, 3) := by decide +kernel
theorem dX9_weeks_52 : decode cX9_weeks 52 = .ok (.goto (-48), 3) := by decide +kernel
theorem dX9_weeks_55 : decode cX9_weeks 55 = .ok (.iload_n 1, 1) := by decide +kernel
theorem dX9_weeks_56 : decode cX9_weeks 56 = .ok (.ireturn, 1) := by decide +kernel
theorem dX9_see_0 : decode cX9_see 0 = .ok (.iload_n 1, 1) := by decide +kernel
theorem dX9_see_1 : decode cX9_see 1 = .ok (.iconst 0, 1) := by decide +kernel
theorem dX9_see_2 : decode cX9_see 2 = .ok (.bipush 20, 2) := by decide +kernel
theorem dX9_see_4 : decode cX9_see 4 = .ok (.invokestatic 69, 3) := by decide +kernel
theorem dX9_see_7 : decode cX9_see 7 = .ok (.ifCond .eq 18, 3) := by decide +kernel
theorem dX9_see_10 : decode cX9_see 10 = .ok (.aload_n 0, 1) := by decide +kernel
theorem dX9_see_11 : decode cX9_see 11 = .ok (.iload_n 2, 1) := by decide +kernel
theorem dX9_see_12 : decode cX9_see 12 = .ok (.invokevirtual 123, 3) := by decide +kernel
theorem dX9_see_15 : decode cX9_see 15 = .ok (.ifCond .eq 10, 3) := by decide +kernel
theorem dX9_see_18 : decode cX9_see 18 = .ok (.iload_n 3, 1) := by decide +kernel
theorem dX9_see_19 : decode cX9_see 19 = .ok (.invokestatic 228, 3) := by decide +kernel
theorem dX9_see_22 : decode cX9_see 22 = .ok (.ifCond .ne 5, 3) := by decide +kernel
theorem dX9_see_25 : decode cX9_see 25 = .ok (.iconst (-1), 1) := by decide +kernel
theorem dX9_see_26 : decode cX9_see 26 = .ok (.ireturn, 1) := by decide +kernel
theorem dX9_see_27 : decode cX9_see 27 = .ok (.aload_n 0, 1) := by decide +kernel
theorem dX9_see_28 : decode cX9_see 28 = .ok (.getfield 22, 3) := by decide +kernel
theorem dX9_see_31 : decode cX9_see 31 = .ok (.getfield 90, 3) := by decide +kernel
theorem dX9_see_34 : decode cX9_see 34 = .ok (.bipush 8, 2) := by decide +kernel
theorem dX9_see_36 : decode cX9_see 36 = .ok (.if_icmp .lt 6, 3) := by decide +kernel
theorem dX9_see_39 : decode cX9_see 39 = .ok (.bipush (-3), 2) := by decide +kernel
theorem dX9_see_41 : decode cX9_see 41 = .ok (.ireturn, 1) := by decide +kernel
theorem dX9_see_42 : decode cX9_see 42 = .ok (.aload_n 0, 1) := by decide +kernel
theorem dX9_see_43 : decode cX9_see 43 = .ok (.getfield 22, 3) := by decide +kernel
theorem dX9_see_46 : decode cX9_see 46 = .ok (.iload_n 1, 1) := by decide +kernel
theorem dX9_see_47 : decode cX9_see 47 = .ok (.iload_n 2, 1) := by decide +kernel
theorem dX9_see_48 : decode cX9_see 48 = .ok (.iload_n 3, 1) := by decide +kernel
theorem dX9_see_49 : decode cX9_see 49 = .ok (.iload 4, 2) := by decide +kernel
theorem dX9_see_51 : decode cX9_see 51 = .ok (.invokevirtual 231, 3) := by decide +kernel
theorem dX9_see_54 : decode cX9_see 54 = .ok (.aload_n 0, 1) := by decide +kernel
theorem dX9_see_55 : decode cX9_see 55 = .ok (.getfield 22, 3) := by decide +kernel
theorem dX9_see_58 : decode cX9_see 58 = .ok (.getfield 90, 3) := by decide +kernel
theorem dX9_see_61 : decode cX9_see 61 = .ok (.ireturn, 1) := by decide +kernel
theorem dX9_forget_0 : decode cX9_forget 0 = .ok (.iload_n 1, 1) := by decide +kernel
theorem dX9_forget_1 : decode cX9_forget 1 = .ok (.iconst 0, 1) := by decide +kernel
theorem dX9_forget_2 : decode cX9_forget 2 = .ok (.aload_n 0, 1) := by decide +kernel
theorem dX9_forget_3 : decode cX9_forget 3 = .ok (.getfield 22, 3) := by decide +kernel
theorem dX9_forget_6 : decode cX9_forget 6 = .ok (.getfield 90, 3) := by decide +kernel
theorem dX9_forget_9 : decode cX9_forget 9 = .ok (.invokestatic 69, 3) := by decide +kernel
theorem dX9_forget_12 : decode cX9_forget 12 = .ok (.ifCond .ne 5, 3) := by decide +kernel
theorem dX9_forget_15 : decode cX9_forget 15 = .ok (.iconst (-1), 1) := by decide +kernel
theorem dX9_forget_16 : decode cX9_forget 16 = .ok (.ireturn, 1) := by decide +kernel
theorem dX9_forget_17 : decode cX9_forget 17 = .ok (.aload_n 0, 1) := by decide +kernel
theorem dX9_forget_18 : decode cX9_forget 18 = .ok (.getfield 22, 3) := by decide +kernel
theorem dX9_forget_21 : decode cX9_forget 21 = .ok (.getfield 90, 3) := by decide +kernel
theorem dX9_forget_24 : decode cX9_forget 24 = .ok (.istore_n 2, 1) := by decide +kernel
theorem dX9_forget_25 : decode cX9_forget 25 = .ok (.aload_n 0, 1) := by decide +kernel
theorem dX9_forget_26 : decode cX9_forget 26 = .ok (.getfield 22, 3) := by decide +kernel
theorem dX9_forget_29 : decode cX9_forget 29 = .ok (.iload_n 1, 1) := by decide +kernel
theorem dX9_forget_30 : decode cX9_forget 30 = .ok (.putfield 90, 3) := by decide +kernel
theorem dX9_forget_33 : decode cX9_forget 33 = .ok (.iload_n 2, 1) := by decide +kernel
theorem dX9_forget_34 : decode cX9_forget 34 = .ok (.ireturn, 1) := by decide +kernel
theorem dX9_fakes_0 : decode cX9_fakes 0 = .ok (.iload_n 1, 1) := by decide +kernel
theorem dX9_fakes_1 : decode cX9_fakes 1 = .ok (.iconst 0, 1) := by decide +kernel
theorem dX9_fakes_2 : decode cX9_fakes 2 = .ok (.iconst 3, 1) := by decide +kernel
theorem dX9_fakes_3 : decode cX9_fakes 3 = .ok (.invokestatic 69, 3) := by decide +kernel
theorem dX9_fakes_6 : decode cX9_fakes 6 = .ok (.ifCond .ne 5, 3) := by decide +kernel
theorem dX9_fakes_9 : decode cX9_fakes 9 = .ok (.iconst (-1), 1) := by decide +kernel
theorem dX9_fakes_10 : decode cX9_fakes 10 = .ok (.ireturn, 1) := by decide +kernel
theorem dX9_fakes_11 : decode cX9_fakes 11 = .ok (.iconst 1, 1) := by decide +kernel
theorem dX9_fakes_12 : decode cX9_fakes 12 = .ok (.aload_n 0, 1) := by decide +kernel
theorem dX9_fakes_13 : decode cX9_fakes 13 = .ok (.getfield 10, 3) := by decide +kernel
theorem dX9_fakes_16 : decode cX9_fakes 16 = .ok (.getfield 100, 3) := by decide +kernel
theorem dX9_fakes_19 : decode cX9_fakes 19 = .ok (.ishl, 1) := by decide +kernel
theorem dX9_fakes_20 : decode cX9_fakes 20 = .ok (.iconst 1, 1) := by decide +kernel
theorem dX9_fakes_21 : decode cX9_fakes 21 = .ok (.isub, 1) := by decide +kernel
theorem dX9_fakes_22 : decode cX9_fakes 22 = .ok (.istore_n 2, 1) := by decide +kernel
theorem dX9_fakes_23 : decode cX9_fakes 23 = .ok (.iconst 0, 1) := by decide +kernel
theorem dX9_fakes_24 : decode cX9_fakes 24 = .ok (.istore_n 3, 1) := by decide +kernel
theorem dX9_fakes_25 : decode cX9_fakes 25 = .ok (.bipush (-4), 2) := by decide +kernel
theorem dX9_fakes_27 : decode cX9_fakes 27 = .ok (.istore 4, 2) := by decide +kernel
theorem dX9_fakes_29 : decode cX9_fakes 29 = .ok (.iload_n 2, 1) := by decide +kernel
theorem dX9_fakes_30 : decode cX9_fakes 30 = .ok (.istore 5, 2) := by decide +kernel
theorem dX9_fakes_32 : decode cX9_fakes 32 = .ok (.iconst 0, 1) := by decide +kernel
theorem dX9_fakes_33 : decode cX9_fakes 33 = .ok (.istore 6, 2) := by decide +kernel
theorem dX9_fakes_35 : decode cX9_fakes 35 = .ok (.iconst 0, 1) := by decide +kernel
theorem dX9_fakes_36 : decode cX9_fakes 36 = .ok (.istore 7, 2) := by decide +kernel
theorem dX9_fakes_38 : decode cX9_fakes 38 = .ok (.iload 7, 2) := by decide +kernel
theorem dX9_fakes_40 : decode cX9_fakes 40 = .ok (.iload_n 2, 1) := by decide +kernel
theorem dX9_fakes_41 : decode cX9_fakes 41 = .ok (.if_icmp .gt 48, 3) := by decide +kernel
theorem dX9_fakes_44 : decode cX9_fakes 44 = .ok (.aload_n 0, 1) := by decide +kernel
theorem dX9_fakes_45 : decode cX9_fakes 45 = .ok (.iload 7, 2) := by decide +kernel
theorem dX9_fakes_47 : decode cX9_fakes 47 = .ok (.invokevirtual 235, 3) := by decide +kernel
theorem dX9_fakes_50 : decode cX9_fakes 50 = .ok (.ifCond .eq 33, 3) := by decide +kernel
theorem dX9_fakes_53 : decode cX9_fakes 53 = .ok (.iload_n 3, 1) := by decide +kernel
theorem dX9_fakes_54 : decode cX9_fakes 54 = .ok (.ifCond .ne 8, 3) := by decide +kernel
theorem dX9_fakes_57 : decode cX9_fakes 57 = .ok (.iload 7, 2) := by decide +kernel
theorem dX9_fakes_59 : decode cX9_fakes 59 = .ok (.goto 5, 3) := by decide +kernel
theorem dX9_fakes_62 : decode cX9_fakes 62 = .ok (.iload 4, 2) := by decide +kernel
theorem dX9_fakes_64 : decode cX9_fakes 64 = .ok (.istore 4, 2) := by decide +kernel
theorem dX9_fakes_66 : decode cX9_fakes 66 = .ok (.iinc 3 1, 3) := by decide +kernel
theorem dX9_fakes_69 : decode cX9_fakes 69 = .ok (.iload 5, 2) := by decide +kernel
theorem dX9_fakes_71 : decode cX9_fakes 71 = .ok (.iload 7, 2) := by decide +kernel
theorem dX9_fakes_73 : decode cX9_fakes 73 = .ok (.iand, 1) := by decide +kernel
theorem dX9_fakes_74 : decode cX9_fakes 74 = .ok (.istore 5, 2) := by decide +kernel
theorem dX9_fakes_76 : decode cX9_fakes 76 = .ok (.iload 6, 2) := by decide +kernel
theorem dX9_fakes_78 : decode cX9_fakes 78 = .ok (.iload 7, 2) := by decide +kernel
theorem dX9_fakes_80 : decode cX9_fakes 80 = .ok (.ior, 1) := by decide +kernel
theorem dX9_fakes_81 : decode cX9_fakes 81 = .ok (.istore 6, 2) := by decide +kernel
theorem dX9_fakes_83 : decode cX9_fakes 83 = .ok (.iinc 7 1, 3) := by decide +kernel
theorem dX9_fakes_86 : decode cX9_fakes 86 = .ok (.goto (-48), 3) := by decide +kernel
theorem dX9_fakes_89 : decode cX9_fakes 89 = .ok (.iload_n 1, 1) := by decide +kernel
theorem dX9_fakes_90 : decode cX9_fakes 90 = .ok (.ifCond .eq 7, 3) := by decide +kernel
theorem dX9_fakes_93 : decode cX9_fakes 93 = .ok (.iload_n 3, 1) := by decide +kernel
theorem dX9_fakes_94 : decode cX9_fakes 94 = .ok (.ifCond .ne 14, 3) := by decide +kernel
theorem dX9_fakes_97 : decode cX9_fakes 97 = .ok (.iload_n 1, 1) := by decide +kernel
theorem dX9_fakes_98 : decode cX9_fakes 98 = .ok (.ifCond .ne 7, 3) := by decide +kernel
theorem dX9_fakes_101 : decode cX9_fakes 101 = .ok (.iload_n 3, 1) := by decide +kernel
theorem dX9_fakes_102 : decode cX9_fakes 102 = .ok (.goto 5, 3) := by decide +kernel
theorem dX9_fakes_105 : decode cX9_fakes 105 = .ok (.bipush (-4), 2) := by decide +kernel
theorem dX9_fakes_107 : decode cX9_fakes 107 = .ok (.ireturn, 1) := by decide +kernel
theorem dX9_fakes_108 : decode cX9_fakes 108 = .ok (.iload_n 1, 1) := by decide +kernel
theorem dX9_fakes_109 : decode cX9_fakes 109 = .ok (.iconst 1, 1) := by decide +kernel
theorem dX9_fakes_110 : decode cX9_fakes 110 = .ok (.if_icmp .ne 6, 3) := by decide +kernel
theorem dX9_fakes_113 : decode cX9_fakes 113 = .ok (.iload 4, 2) := by decide +kernel
theorem dX9_fakes_115 : decode cX9_fakes 115 = .ok (.ireturn, 1) := by decide +kernel
theorem dX9_fakes_116 : decode cX9_fakes 116 = .ok (.iload_n 1, 1) := by decide +kernel
theorem dX9_fakes_117 : decode cX9_fakes 117 = .ok (.iconst 2, 1) := by decide +kernel
theorem dX9_fakes_118 : decode cX9_fakes 118 = .ok (.if_icmp .ne 8, 3) := by decide +kernel
theorem dX9_fakes_121 : decode cX9_fakes 121 = .ok (.iload 5, 2) := by decide +kernel
theorem dX9_fakes_123 : decode cX9_fakes 123 = .ok (.goto 9, 3) := by decide +kernel
theorem dX9_fakes_126 : decode cX9_fakes 126 = .ok (.iload_n 2, 1) := by decide +kernel
theorem dX9_fakes_127 : decode cX9_fakes 127 = .ok (.iload 6, 2) := by decide +kernel
theorem dX9_fakes_129 : decode cX9_fakes 129 = .ok (.iconst (-1), 1) := by decide +kernel
theorem dX9_fakes_130 : decode cX9_fakes 130 = .ok (.ixor, 1) := by decide +kernel
theorem dX9_fakes_131 : decode cX9_fakes 131 = .ok (.iand, 1) := by decide +kernel
theorem dX9_fakes_132 : decode cX9_fakes 132 = .ok (.ireturn, 1) := by decide +kernel
theorem dX9_wrong_0 : decode cX9_wrong 0 = .ok (.aload_n 0, 1) := by decide +kernel
theorem dX9_wrong_1 : decode cX9_wrong 1 = .ok (.getfield 16, 3) := by decide +kernel
theorem dX9_wrong_4 : decode cX9_wrong 4 = .ok (.aload_n 0, 1) := by decide +kernel
theorem dX9_wrong_5 : decode cX9_wrong 5 = .ok (.getfield 10, 3) := by decide +kernel
theorem dX9_wrong_8 : decode cX9_wrong 8 = .ok (.invokevirtual 86, 3) := by decide +kernel
theorem dX9_wrong_11 : decode cX9_wrong 11 = .ok (.aload_n 0, 1) := by decide +kernel
theorem dX9_wrong_12 : decode cX9_wrong 12 = .ok (.getfield 22, 3) := by decide +kernel
theorem dX9_wrong_15 : decode cX9_wrong 15 = .ok (.aload_n 0, 1) := by decide +kernel
theorem dX9_wrong_16 : decode cX9_wrong 16 = .ok (.getfield 16, 3) := by decide +kernel
theorem dX9_wrong_19 : decode cX9_wrong 19 = .ok (.invokevirtual 238, 3) := by decide +kernel
theorem dX9_wrong_22 : decode cX9_wrong 22 = .ok (.ifCond .eq 8, 3) := by decide +kernel
theorem dX9_wrong_25 : decode cX9_wrong 25 = .ok (.bipush 16, 2) := by decide +kernel
theorem dX9_wrong_27 : decode cX9_wrong 27 = .ok (.goto 4, 3) := by decide +kernel
theorem dX9_wrong_30 : decode cX9_wrong 30 = .ok (.iconst 0, 1) := by decide +kernel
theorem dX9_wrong_31 : decode cX9_wrong 31 = .ok (.istore_n 1, 1) := by decide +kernel
theorem dX9_wrong_32 : decode cX9_wrong 32 = .ok (.iconst 0, 1) := by decide +kernel
theorem dX9_wrong_33 : decode cX9_wrong 33 = .ok (.istore_n 2, 1) := by decide +kernel
theorem dX9_wrong_34 : decode cX9_wrong 34 = .ok (.iload_n 2, 1) := by decide +kernel
theorem dX9_wrong_35 : decode cX9_wrong 35 = .ok (.aload_n 0, 1) := by decide +kernel
theorem dX9_wrong_36 : decode cX9_wrong 36 = .ok (.getfield 10, 3) := by decide +kernel
theorem dX9_wrong_39 : decode cX9_wrong 39 = .ok (.getfield 103, 3) := by decide +kernel
theorem dX9_wrong_42 : decode cX9_wrong 42 = .ok (.if_icmp .ge 66, 3) := by decide +kernel
theorem dX9_wrong_45 : decode cX9_wrong 45 = .ok (.aload_n 0, 1) := by decide +kernel
theorem dX9_wrong_46 : decode cX9_wrong 46 = .ok (.getfield 16, 3) := by decide +kernel
theorem dX9_wrong_49 : decode cX9_wrong 49 = .ok (.aload_n 0, 1) := by decide +kernel
theorem dX9_wrong_50 : decode cX9_wrong 50 = .ok (.getfield 10, 3) := by decide +kernel
theorem dX9_wrong_53 : decode cX9_wrong 53 = .ok (.invokevirtual 86, 3) := by decide +kernel
theorem dX9_wrong_56 : decode cX9_wrong 56 = .ok (.aload_n 0, 1) := by decide +kernel
theorem dX9_wrong_57 : decode cX9_wrong 57 = .ok (.getfield 16, 3) := by decide +kernel
theorem dX9_wrong_60 : decode cX9_wrong 60 = .ok (.getfield 152, 3) := by decide +kernel
theorem dX9_wrong_63 : decode cX9_wrong 63 = .ok (.iload_n 2, 1) := by decide +kernel
theorem dX9_wrong_64 : decode cX9_wrong 64 = .ok (.aaload, 1) := by decide +kernel
theorem dX9_wrong_65 : decode cX9_wrong 65 = .ok (.iconst 1, 1) := by decide +kernel
theorem dX9_wrong_66 : decode cX9_wrong 66 = .ok (.aload_n 0, 1) := by decide +kernel
theorem dX9_wrong_67 : decode cX9_wrong 67 = .ok (.getfield 16, 3) := by decide +kernel
theorem dX9_wrong_70 : decode cX9_wrong 70 = .ok (.getfield 152, 3) := by decide +kernel
theorem dX9_wrong_73 : decode cX9_wrong 73 = .ok (.iload_n 2, 1) := by decide +kernel
theorem dX9_wrong_74 : decode cX9_wrong 74 = .ok (.aaload, 1) := by decide +kernel
theorem dX9_wrong_75 : decode cX9_wrong 75 = .ok (.getfield 164, 3) := by decide +kernel
theorem dX9_wrong_78 : decode cX9_wrong 78 = .ok (.isub, 1) := by decide +kernel
theorem dX9_wrong_79 : decode cX9_wrong 79 = .ok (.putfield 164, 3) := by decide +kernel
theorem dX9_wrong_82 : decode cX9_wrong 82 = .ok (.aload_n 0, 1) := by decide +kernel
theorem dX9_wrong_83 : decode cX9_wrong 83 = .ok (.getfield 22, 3) := by decide +kernel
theorem dX9_wrong_86 : decode cX9_wrong 86 = .ok (.aload_n 0, 1) := by decide +kernel
theorem dX9_wrong_87 : decode cX9_wrong 87 = .ok (.getfield 16, 3) := by decide +kernel
theorem dX9_wrong_90 : decode cX9_wrong 90 = .ok (.invokevirtual 238, 3) := by decide +kernel
theorem dX9_wrong_93 : decode cX9_wrong 93 = .ok (.ifCond .eq 9, 3) := by decide +kernel
theorem dX9_wrong_96 : decode cX9_wrong 96 = .ok (.iload_n 1, 1) := by decide +kernel
theorem dX9_wrong_97 : decode cX9_wrong 97 = .ok (.iconst 1, 1) := by decide +kernel
theorem dX9_wrong_98 : decode cX9_wrong 98 = .ok (.iload_n 2, 1) := by decide +kernel
theorem dX9_wrong_99 : decode cX9_wrong 99 = .ok (.ishl, 1) := by decide +kernel
theorem dX9_wrong_100 : decode cX9_wrong 100 = .ok (.ior, 1) := by decide +kernel
theorem dX9_wrong_101 : decode cX9_wrong 101 = .ok (.istore_n 1, 1) := by decide +kernel
theorem dX9_wrong_102 : decode cX9_wrong 102 = .ok (.iinc 2 1, 3) := by decide +kernel
theorem dX9_wrong_105 : decode cX9_wrong 105 = .ok (.goto (-71), 3) := by decide +kernel
theorem dX9_wrong_108 : decode cX9_wrong 108 = .ok (.iload_n 1, 1) := by decide +kernel
theorem dX9_wrong_109 : decode cX9_wrong 109 = .ok (.ireturn, 1) := by decide +kernel
theorem dX9_gulls_0 : decode cX9_gulls 0 = .ok (.iload_n 2, 1) := by decide +kernel
theorem dX9_gulls_1 : decode cX9_gulls 1 = .ok (.iconst 1, 1) := by decide +kernel
theorem dX9_gulls_2 : decode cX9_gulls 2 = .ok (.bipush 60, 2) := by decide +kernel
theorem dX9_gulls_4 : decode cX9_gulls 4 = .ok (.invokestatic 69, 3) := by decide +kernel
theorem dX9_gulls_7 : decode cX9_gulls 7 = .ok (.ifCond .eq 12, 3) := by decide +kernel
theorem dX9_gulls_10 : decode cX9_gulls 10 = .ok (.iload_n 3, 1) := by decide +kernel
theorem dX9_gulls_11 : decode cX9_gulls 11 = .ok (.iconst 0, 1) := by decide +kernel
theorem dX9_gulls_12 : decode cX9_gulls 12 = .ok (.iconst 1, 1) := by decide +kernel
theorem dX9_gulls_13 : decode cX9_gulls 13 = .ok (.invokestatic 69, 3) := by decide +kernel
theorem dX9_gulls_16 : decode cX9_gulls 16 = .ok (.ifCond .ne 5, 3) := by decide +kernel
theorem dX9_gulls_19 : decode cX9_gulls 19 = .ok (.iconst (-1), 1) := by decide +kernel
theorem dX9_gulls_20 : decode cX9_gulls 20 = .ok (.ireturn, 1) := by decide +kernel
theorem dX9_gulls_21 : decode cX9_gulls 21 = .ok (.aload_n 0, 1) := by decide +kernel
theorem dX9_gulls_22 : decode cX9_gulls 22 = .ok (.getfield 16, 3) := by decide +kernel
theorem dX9_gulls_25 : decode cX9_gulls 25 = .ok (.aload_n 0, 1) := by decide +kernel
theorem dX9_gulls_26 : decode cX9_gulls 26 = .ok (.getfield 10, 3) := by decide +kernel
theorem dX9_gulls_29 : decode cX9_gulls 29 = .ok (.invokevirtual 86, 3) := by decide +kernel
theorem dX9_gulls_32 : decode cX9_gulls 32 = .ok (.iload_n 1, 1) := by decide +kernel
theorem dX9_gulls_33 : decode cX9_gulls 33 = .ok (.istore 4, 2) := by decide +kernel
theorem dX9_gulls_35 : decode cX9_gulls 35 = .ok (.iconst 0, 1) := by decide +kernel
theorem dX9_gulls_36 : decode cX9_gulls 36 = .ok (.istore 5, 2) := by decide +kernel
theorem dX9_gulls_38 : decode cX9_gulls 38 = .ok (.iload 5, 2) := by decide +kernel
theorem dX9_gulls_40 : decode cX9_gulls 40 = .ok (.iload_n 2, 1) := by decide +kernel
theorem dX9_gulls_41 : decode cX9_gulls 41 = .ok (.if_icmp .ge 43, 3) := by decide +kernel
theorem dX9_gulls_44 : decode cX9_gulls 44 = .ok (.iload 4, 2) := by decide +kernel
theorem dX9_gulls_46 : decode cX9_gulls 46 = .ok (.ldc 242, 2) := by decide +kernel
theorem dX9_gulls_48 : decode cX9_gulls 48 = .ok (.imul, 1) := by decide +kernel
theorem dX9_gulls_49 : decode cX9_gulls 49 = .ok (.sipush 12345, 3) := by decide +kernel
theorem dX9_gulls_52 : decode cX9_gulls 52 = .ok (.iadd, 1) := by decide +kernel
theorem dX9_gulls_53 : decode cX9_gulls 53 = .ok (.istore 4, 2) := by decide +kernel
theorem dX9_gulls_55 : decode cX9_gulls 55 = .ok (.aload_n 0, 1) := by decide +kernel
theorem dX9_gulls_56 : decode cX9_gulls 56 = .ok (.getfield 16, 3) := by decide +kernel
theorem dX9_gulls_59 : decode cX9_gulls 59 = .ok (.iload 4, 2) := by decide +kernel
theorem dX9_gulls_61 : decode cX9_gulls 61 = .ok (.bipush 16, 2) := by decide +kernel
theorem dX9_gulls_63 : decode cX9_gulls 63 = .ok (.iushr, 1) := by decide +kernel
theorem dX9_gulls_64 : decode cX9_gulls 64 = .ok (.sipush 32767, 3) := by decide +kernel
theorem dX9_gulls_67 : decode cX9_gulls 67 = .ok (.iand, 1) := by decide +kernel
theorem dX9_gulls_68 : decode cX9_gulls 68 = .ok (.invokevirtual 243, 3) := by decide +kernel
theorem dX9_gulls_71 : decode cX9_gulls 71 = .ok (.aload_n 0, 1) := by decide +kernel
theorem dX9_gulls_72 : decode cX9_gulls 72 = .ok (.getfield 16, 3) := by decide +kernel
theorem dX9_gulls_75 : decode cX9_gulls 75 = .ok (.invokevirtual 246, 3) := by decide +kernel
theorem dX9_gulls_78 : decode cX9_gulls 78 = .ok (.iinc 5 1, 3) := by decide +kernel
theorem dX9_gulls_81 : decode cX9_gulls 81 = .ok (.goto (-43), 3) := by decide +kernel
theorem dX9_gulls_84 : decode cX9_gulls 84 = .ok (.iload_n 3, 1) := by decide +kernel
theorem dX9_gulls_85 : decode cX9_gulls 85 = .ok (.ifCond .ne 17, 3) := by decide +kernel
theorem dX9_gulls_88 : decode cX9_gulls 88 = .ok (.aload_n 0, 1) := by decide +kernel
theorem dX9_gulls_89 : decode cX9_gulls 89 = .ok (.getfield 16, 3) := by decide +kernel
theorem dX9_gulls_92 : decode cX9_gulls 92 = .ok (.bipush 30, 2) := by decide +kernel
theorem dX9_gulls_94 : decode cX9_gulls 94 = .ok (.bipush 30, 2) := by decide +kernel
theorem dX9_gulls_96 : decode cX9_gulls 96 = .ok (.invokevirtual 177, 3) := by decide +kernel
theorem dX9_gulls_99 : decode cX9_gulls 99 = .ok (.goto 10, 3) := by decide +kernel
theorem dX9_gulls_102 : decode cX9_gulls 102 = .ok (.aload_n 0, 1) := by decide +kernel
theorem dX9_gulls_103 : decode cX9_gulls 103 = .ok (.getfield 16, 3) := by decide +kernel
theorem dX9_gulls_106 : decode cX9_gulls 106 = .ok (.invokevirtual 192, 3) := by decide +kernel
theorem dX9_gulls_109 : decode cX9_gulls 109 = .ok (.ireturn, 1) := by decide +kernel
