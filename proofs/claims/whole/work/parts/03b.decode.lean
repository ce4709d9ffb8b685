theorem dX9_init_0 : decode cX9_init 0 = .ok (.aload_n 0, 1) := by decide +kernel
theorem dX9_init_1 : decode cX9_init 1 = .ok (.invokespecial 1, 3) := by decide +kernel
theorem dX9_init_4 : decode cX9_init 4 = .ok (.aload_n 0, 1) := by decide +kernel
theorem dX9_init_5 : decode cX9_init 5 = .ok (.new 7, 3) := by decide +kernel
theorem dX9_init_8 : decode cX9_init 8 = .ok (.dup, 1) := by decide +kernel
theorem dX9_init_9 : decode cX9_init 9 = .ok (.invokespecial 9, 3) := by decide +kernel
theorem dX9_init_12 : decode cX9_init 12 = .ok (.putfield 10, 3) := by decide +kernel
theorem dX9_init_15 : decode cX9_init 15 = .ok (.aload_n 0, 1) := by decide +kernel
theorem dX9_init_16 : decode cX9_init 16 = .ok (.aload_n 0, 1) := by decide +kernel
theorem dX9_init_17 : decode cX9_init 17 = .ok (.getfield 10, 3) := by decide +kernel
theorem dX9_init_20 : decode cX9_init 20 = .ok (.getfield 16, 3) := by decide +kernel
theorem dX9_init_23 : decode cX9_init 23 = .ok (.putfield 20, 3) := by decide +kernel
theorem dX9_init_26 : decode cX9_init 26 = .ok (.aload_n 0, 1) := by decide +kernel
theorem dX9_init_27 : decode cX9_init 27 = .ok (.new 21, 3) := by decide +kernel
theorem dX9_init_30 : decode cX9_init 30 = .ok (.dup, 1) := by decide +kernel
theorem dX9_init_31 : decode cX9_init 31 = .ok (.invokespecial 23, 3) := by decide +kernel
theorem dX9_init_34 : decode cX9_init 34 = .ok (.putfield 24, 3) := by decide +kernel
theorem dX9_init_37 : decode cX9_init 37 = .ok (.aload_n 0, 1) := by decide +kernel
theorem dX9_init_38 : decode cX9_init 38 = .ok (.aload_n 0, 1) := by decide +kernel
theorem dX9_init_39 : decode cX9_init 39 = .ok (.getfield 24, 3) := by decide +kernel
theorem dX9_init_42 : decode cX9_init 42 = .ok (.getfield 28, 3) := by decide +kernel
theorem dX9_init_45 : decode cX9_init 45 = .ok (.putfield 32, 3) := by decide +kernel
theorem dX9_init_48 : decode cX9_init 48 = .ok (.aload_n 0, 1) := by decide +kernel
theorem dX9_init_49 : decode cX9_init 49 = .ok (.new 33, 3) := by decide +kernel
theorem dX9_init_52 : decode cX9_init 52 = .ok (.dup, 1) := by decide +kernel
theorem dX9_init_53 : decode cX9_init 53 = .ok (.invokespecial 35, 3) := by decide +kernel
theorem dX9_init_56 : decode cX9_init 56 = .ok (.putfield 36, 3) := by decide +kernel
theorem dX9_init_59 : decode cX9_init 59 = .ok (.aload_n 0, 1) := by decide +kernel
theorem dX9_init_60 : decode cX9_init 60 = .ok (.iconst 2, 1) := by decide +kernel
theorem dX9_init_61 : decode cX9_init 61 = .ok (.anewarray 40, 3) := by decide +kernel
theorem dX9_init_64 : decode cX9_init 64 = .ok (.putfield 42, 3) := by decide +kernel
theorem dX9_init_67 : decode cX9_init 67 = .ok (.iconst 0, 1) := by decide +kernel
theorem dX9_init_68 : decode cX9_init 68 = .ok (.istore_n 1, 1) := by decide +kernel
theorem dX9_init_69 : decode cX9_init 69 = .ok (.iload_n 1, 1) := by decide +kernel
theorem dX9_init_70 : decode cX9_init 70 = .ok (.iconst 2, 1) := by decide +kernel
theorem dX9_init_71 : decode cX9_init 71 = .ok (.if_icmp .ge 22, 3) := by decide +kernel
theorem dX9_init_74 : decode cX9_init 74 = .ok (.aload_n 0, 1) := by decide +kernel
theorem dX9_init_75 : decode cX9_init 75 = .ok (.getfield 42, 3) := by decide +kernel
theorem dX9_init_78 : decode cX9_init 78 = .ok (.iload_n 1, 1) := by decide +kernel
theorem dX9_init_79 : decode cX9_init 79 = .ok (.new 40, 3) := by decide +kernel
theorem dX9_init_82 : decode cX9_init 82 = .ok (.dup, 1) := by decide +kernel
theorem dX9_init_83 : decode cX9_init 83 = .ok (.invokespecial 46, 3) := by decide +kernel
theorem dX9_init_86 : decode cX9_init 86 = .ok (.aastore, 1) := by decide +kernel
theorem dX9_init_87 : decode cX9_init 87 = .ok (.iinc 1 1, 3) := by decide +kernel
theorem dX9_init_90 : decode cX9_init 90 = .ok (.goto (-21), 3) := by decide +kernel
theorem dX9_init_93 : decode cX9_init 93 = .ok (.aload_n 0, 1) := by decide +kernel
theorem dX9_init_94 : decode cX9_init 94 = .ok (.iconst 2, 1) := by decide +kernel
theorem dX9_init_95 : decode cX9_init 95 = .ok (.newarray .boolean, 2) := by decide +kernel
theorem dX9_init_97 : decode cX9_init 97 = .ok (.putfield 47, 3) := by decide +kernel
theorem dX9_init_100 : decode cX9_init 100 = .ok (.aload_n 0, 1) := by decide +kernel
theorem dX9_init_101 : decode cX9_init 101 = .ok (.iconst 4, 1) := by decide +kernel
theorem dX9_init_102 : decode cX9_init 102 = .ok (.anewarray 51, 3) := by decide +kernel
theorem dX9_init_105 : decode cX9_init 105 = .ok (.putfield 53, 3) := by decide +kernel
theorem dX9_init_108 : decode cX9_init 108 = .ok (.iconst 0, 1) := by decide +kernel
theorem dX9_init_109 : decode cX9_init 109 = .ok (.istore_n 1, 1) := by decide +kernel
theorem dX9_init_110 : decode cX9_init 110 = .ok (.iload_n 1, 1) := by decide +kernel
theorem dX9_init_111 : decode cX9_init 111 = .ok (.iconst 4, 1) := by decide +kernel
theorem dX9_init_112 : decode cX9_init 112 = .ok (.if_icmp .ge 22, 3) := by decide +kernel
theorem dX9_init_115 : decode cX9_init 115 = .ok (.aload_n 0, 1) := by decide +kernel
theorem dX9_init_116 : decode cX9_init 116 = .ok (.getfield 53, 3) := by decide +kernel
theorem dX9_init_119 : decode cX9_init 119 = .ok (.iload_n 1, 1) := by decide +kernel
theorem dX9_init_120 : decode cX9_init 120 = .ok (.new 51, 3) := by decide +kernel
theorem dX9_init_123 : decode cX9_init 123 = .ok (.dup, 1) := by decide +kernel
theorem dX9_init_124 : decode cX9_init 124 = .ok (.invokespecial 57, 3) := by decide +kernel
theorem dX9_init_127 : decode cX9_init 127 = .ok (.aastore, 1) := by decide +kernel
theorem dX9_init_128 : decode cX9_init 128 = .ok (.iinc 1 1, 3) := by decide +kernel
theorem dX9_init_131 : decode cX9_init 131 = .ok (.goto (-21), 3) := by decide +kernel
theorem dX9_init_134 : decode cX9_init 134 = .ok (.return_, 1) := by decide +kernel
theorem dX9_feed_0 : decode cX9_feed 0 = .ok (.iload_n 1, 1) := by decide +kernel
theorem dX9_feed_1 : decode cX9_feed 1 = .ok (.ifCond .lt 9, 3) := by decide +kernel
theorem dX9_feed_4 : decode cX9_feed 4 = .ok (.iload_n 1, 1) := by decide +kernel
theorem dX9_feed_5 : decode cX9_feed 5 = .ok (.bipush 127, 2) := by decide +kernel
theorem dX9_feed_7 : decode cX9_feed 7 = .ok (.if_icmp .le 5, 3) := by decide +kernel
theorem dX9_feed_10 : decode cX9_feed 10 = .ok (.iconst (-1), 1) := by decide +kernel
theorem dX9_feed_11 : decode cX9_feed 11 = .ok (.ireturn, 1) := by decide +kernel
theorem dX9_feed_12 : decode cX9_feed 12 = .ok (.aload_n 0, 1) := by decide +kernel
theorem dX9_feed_13 : decode cX9_feed 13 = .ok (.getfield 20, 3) := by decide +kernel
theorem dX9_feed_16 : decode cX9_feed 16 = .ok (.getfield 58, 3) := by decide +kernel
theorem dX9_feed_19 : decode cX9_feed 19 = .ok (.sipush 160, 3) := by decide +kernel
theorem dX9_feed_22 : decode cX9_feed 22 = .ok (.if_icmp .lt 6, 3) := by decide +kernel
theorem dX9_feed_25 : decode cX9_feed 25 = .ok (.bipush (-3), 2) := by decide +kernel
theorem dX9_feed_27 : decode cX9_feed 27 = .ok (.ireturn, 1) := by decide +kernel
theorem dX9_feed_28 : decode cX9_feed 28 = .ok (.aload_n 0, 1) := by decide +kernel
theorem dX9_feed_29 : decode cX9_feed 29 = .ok (.getfield 20, 3) := by decide +kernel
theorem dX9_feed_32 : decode cX9_feed 32 = .ok (.iload_n 1, 1) := by decide +kernel
theorem dX9_feed_33 : decode cX9_feed 33 = .ok (.invokevirtual 64, 3) := by decide +kernel
theorem dX9_feed_36 : decode cX9_feed 36 = .ok (.aload_n 0, 1) := by decide +kernel
theorem dX9_feed_37 : decode cX9_feed 37 = .ok (.getfield 20, 3) := by decide +kernel
theorem dX9_feed_40 : decode cX9_feed 40 = .ok (.getfield 58, 3) := by decide +kernel
theorem dX9_feed_43 : decode cX9_feed 43 = .ok (.ireturn, 1) := by decide +kernel
theorem dX9_end_0 : decode cX9_end 0 = .ok (.iload_n 1, 1) := by decide +kernel
theorem dX9_end_1 : decode cX9_end 1 = .ok (.ifCond .lt 14, 3) := by decide +kernel
theorem dX9_end_4 : decode cX9_end 4 = .ok (.iload_n 1, 1) := by decide +kernel
theorem dX9_end_5 : decode cX9_end 5 = .ok (.aload_n 0, 1) := by decide +kernel
theorem dX9_end_6 : decode cX9_end 6 = .ok (.getfield 20, 3) := by decide +kernel
theorem dX9_end_9 : decode cX9_end 9 = .ok (.getfield 58, 3) := by decide +kernel
theorem dX9_end_12 : decode cX9_end 12 = .ok (.if_icmp .le 5, 3) := by decide +kernel
theorem dX9_end_15 : decode cX9_end 15 = .ok (.iconst (-1), 1) := by decide +kernel
theorem dX9_end_16 : decode cX9_end 16 = .ok (.ireturn, 1) := by decide +kernel
theorem dX9_end_17 : decode cX9_end 17 = .ok (.aload_n 0, 1) := by decide +kernel
theorem dX9_end_18 : decode cX9_end 18 = .ok (.getfield 20, 3) := by decide +kernel
theorem dX9_end_21 : decode cX9_end 21 = .ok (.getfield 58, 3) := by decide +kernel
theorem dX9_end_24 : decode cX9_end 24 = .ok (.istore_n 2, 1) := by decide +kernel
theorem dX9_end_25 : decode cX9_end 25 = .ok (.aload_n 0, 1) := by decide +kernel
theorem dX9_end_26 : decode cX9_end 26 = .ok (.getfield 20, 3) := by decide +kernel
theorem dX9_end_29 : decode cX9_end 29 = .ok (.iload_n 1, 1) := by decide +kernel
theorem dX9_end_30 : decode cX9_end 30 = .ok (.invokevirtual 68, 3) := by decide +kernel
theorem dX9_end_33 : decode cX9_end 33 = .ok (.iload_n 2, 1) := by decide +kernel
theorem dX9_end_34 : decode cX9_end 34 = .ok (.ireturn, 1) := by decide +kernel
theorem dX9_text_0 : decode cX9_text 0 = .ok (.aload_n 0, 1) := by decide +kernel
theorem dX9_text_1 : decode cX9_text 1 = .ok (.getfield 10, 3) := by decide +kernel
theorem dX9_text_4 : decode cX9_text 4 = .ok (.invokevirtual 71, 3) := by decide +kernel
theorem dX9_text_7 : decode cX9_text 7 = .ok (.istore_n 1, 1) := by decide +kernel
theorem dX9_text_8 : decode cX9_text 8 = .ok (.aload_n 0, 1) := by decide +kernel
theorem dX9_text_9 : decode cX9_text 9 = .ok (.getfield 20, 3) := by decide +kernel
theorem dX9_text_12 : decode cX9_text 12 = .ok (.iconst 0, 1) := by decide +kernel
theorem dX9_text_13 : decode cX9_text 13 = .ok (.invokevirtual 68, 3) := by decide +kernel
theorem dX9_text_16 : decode cX9_text 16 = .ok (.iload_n 1, 1) := by decide +kernel
theorem dX9_text_17 : decode cX9_text 17 = .ok (.ifCond .ne 17, 3) := by decide +kernel
theorem dX9_text_20 : decode cX9_text 20 = .ok (.bipush (-10), 2) := by decide +kernel
theorem dX9_text_22 : decode cX9_text 22 = .ok (.aload_n 0, 1) := by decide +kernel
theorem dX9_text_23 : decode cX9_text 23 = .ok (.getfield 10, 3) := by decide +kernel
theorem dX9_text_26 : decode cX9_text 26 = .ok (.getfield 75, 3) := by decide +kernel
theorem dX9_text_29 : decode cX9_text 29 = .ok (.getfield 79, 3) := by decide +kernel
theorem dX9_text_32 : decode cX9_text 32 = .ok (.isub, 1) := by decide +kernel
theorem dX9_text_33 : decode cX9_text 33 = .ok (.ireturn, 1) := by decide +kernel
theorem dX9_text_34 : decode cX9_text 34 = .ok (.aload_n 0, 1) := by decide +kernel
theorem dX9_text_35 : decode cX9_text 35 = .ok (.getfield 32, 3) := by decide +kernel
theorem dX9_text_38 : decode cX9_text 38 = .ok (.aload_n 0, 1) := by decide +kernel
theorem dX9_text_39 : decode cX9_text 39 = .ok (.getfield 10, 3) := by decide +kernel
theorem dX9_text_42 : decode cX9_text 42 = .ok (.getfield 84, 3) := by decide +kernel
theorem dX9_text_45 : decode cX9_text 45 = .ok (.invokevirtual 87, 3) := by decide +kernel
theorem dX9_text_48 : decode cX9_text 48 = .ok (.iconst 0, 1) := by decide +kernel
theorem dX9_text_49 : decode cX9_text 49 = .ok (.istore_n 2, 1) := by decide +kernel
theorem dX9_text_50 : decode cX9_text 50 = .ok (.iload_n 2, 1) := by decide +kernel
theorem dX9_text_51 : decode cX9_text 51 = .ok (.iconst 2, 1) := by decide +kernel
theorem dX9_text_52 : decode cX9_text 52 = .ok (.if_icmp .ge 16, 3) := by decide +kernel
theorem dX9_text_55 : decode cX9_text 55 = .ok (.aload_n 0, 1) := by decide +kernel
theorem dX9_text_56 : decode cX9_text 56 = .ok (.getfield 47, 3) := by decide +kernel
theorem dX9_text_59 : decode cX9_text 59 = .ok (.iload_n 2, 1) := by decide +kernel
theorem dX9_text_60 : decode cX9_text 60 = .ok (.iconst 0, 1) := by decide +kernel
theorem dX9_text_61 : decode cX9_text 61 = .ok (.bastore, 1) := by decide +kernel
theorem dX9_text_62 : decode cX9_text 62 = .ok (.iinc 2 1, 3) := by decide +kernel
theorem dX9_text_65 : decode cX9_text 65 = .ok (.goto (-15), 3) := by decide +kernel
theorem dX9_text_68 : decode cX9_text 68 = .ok (.aload_n 0, 1) := by decide +kernel
theorem dX9_text_69 : decode cX9_text 69 = .ok (.invokevirtual 91, 3) := by decide +kernel
theorem dX9_text_72 : decode cX9_text 72 = .ok (.ireturn, 1) := by decide +kernel
theorem dX9_fault_0 : decode cX9_fault 0 = .ok (.aload_n 0, 1) := by decide +kernel
theorem dX9_fault_1 : decode cX9_fault 1 = .ok (.getfield 10, 3) := by decide +kernel
theorem dX9_fault_4 : decode cX9_fault 4 = .ok (.getfield 75, 3) := by decide +kernel
theorem dX9_fault_7 : decode cX9_fault 7 = .ok (.getfield 95, 3) := by decide +kernel
theorem dX9_fault_10 : decode cX9_fault 10 = .ok (.ireturn, 1) := by decide +kernel
theorem dX9_reason_0 : decode cX9_reason 0 = .ok (.iload_n 1, 1) := by decide +kernel
theorem dX9_reason_1 : decode cX9_reason 1 = .ok (.ifCond .lt 8, 3) := by decide +kernel
theorem dX9_reason_4 : decode cX9_reason 4 = .ok (.iload_n 1, 1) := by decide +kernel
theorem dX9_reason_5 : decode cX9_reason 5 = .ok (.iconst 2, 1) := by decide +kernel
theorem dX9_reason_6 : decode cX9_reason 6 = .ok (.if_icmp .le 5, 3) := by decide +kernel
theorem dX9_reason_9 : decode cX9_reason 9 = .ok (.iconst (-1), 1) := by decide +kernel
theorem dX9_reason_10 : decode cX9_reason 10 = .ok (.ireturn, 1) := by decide +kernel
theorem dX9_reason_11 : decode cX9_reason 11 = .ok (.aload_n 0, 1) := by decide +kernel
theorem dX9_reason_12 : decode cX9_reason 12 = .ok (.getfield 10, 3) := by decide +kernel
theorem dX9_reason_15 : decode cX9_reason 15 = .ok (.getfield 75, 3) := by decide +kernel
theorem dX9_reason_18 : decode cX9_reason 18 = .ok (.iload_n 1, 1) := by decide +kernel
theorem dX9_reason_19 : decode cX9_reason 19 = .ok (.invokevirtual 98, 3) := by decide +kernel
theorem dX9_reason_22 : decode cX9_reason 22 = .ok (.ireturn, 1) := by decide +kernel
theorem dX9_rule_0 : decode cX9_rule 0 = .ok (.iload_n 1, 1) := by decide +kernel
theorem dX9_rule_1 : decode cX9_rule 1 = .ok (.tableswitch 118 0 10 #[59, 67, 85, 85, 85, 85, 85, 85, 94, 102, 110], 59) := by decide +kernel
theorem dX9_rule_60 : decode cX9_rule 60 = .ok (.aload_n 0, 1) := by decide +kernel
theorem dX9_rule_61 : decode cX9_rule 61 = .ok (.getfield 32, 3) := by decide +kernel
theorem dX9_rule_64 : decode cX9_rule 64 = .ok (.getfield 102, 3) := by decide +kernel
theorem dX9_rule_67 : decode cX9_rule 67 = .ok (.ireturn, 1) := by decide +kernel
theorem dX9_rule_68 : decode cX9_rule 68 = .ok (.aload_n 0, 1) := by decide +kernel
theorem dX9_rule_69 : decode cX9_rule 69 = .ok (.getfield 24, 3) := by decide +kernel
theorem dX9_rule_72 : decode cX9_rule 72 = .ok (.getfield 105, 3) := by decide +kernel
theorem dX9_rule_75 : decode cX9_rule 75 = .ok (.aload_n 0, 1) := by decide +kernel
theorem dX9_rule_76 : decode cX9_rule 76 = .ok (.getfield 32, 3) := by decide +kernel
theorem dX9_rule_79 : decode cX9_rule 79 = .ok (.getfield 102, 3) := by decide +kernel
theorem dX9_rule_82 : decode cX9_rule 82 = .ok (.iaload, 1) := by decide +kernel
theorem dX9_rule_83 : decode cX9_rule 83 = .ok (.iconst 1, 1) := by decide +kernel
theorem dX9_rule_84 : decode cX9_rule 84 = .ok (.iadd, 1) := by decide +kernel
theorem dX9_rule_85 : decode cX9_rule 85 = .ok (.ireturn, 1) := by decide +kernel
theorem dX9_rule_86 : decode cX9_rule 86 = .ok (.aload_n 0, 1) := by decide +kernel
theorem dX9_rule_87 : decode cX9_rule 87 = .ok (.getfield 24, 3) := by decide +kernel
theorem dX9_rule_90 : decode cX9_rule 90 = .ok (.iload_n 1, 1) := by decide +kernel
theorem dX9_rule_91 : decode cX9_rule 91 = .ok (.invokevirtual 109, 3) := by decide +kernel
theorem dX9_rule_94 : decode cX9_rule 94 = .ok (.ireturn, 1) := by decide +kernel
theorem dX9_rule_95 : decode cX9_rule 95 = .ok (.aload_n 0, 1) := by decide +kernel
theorem dX9_rule_96 : decode cX9_rule 96 = .ok (.getfield 36, 3) := by decide +kernel
theorem dX9_rule_99 : decode cX9_rule 99 = .ok (.getfield 112, 3) := by decide +kernel
theorem dX9_rule_102 : decode cX9_rule 102 = .ok (.ireturn, 1) := by decide +kernel
theorem dX9_rule_103 : decode cX9_rule 103 = .ok (.aload_n 0, 1) := by decide +kernel
theorem dX9_rule_104 : decode cX9_rule 104 = .ok (.getfield 36, 3) := by decide +kernel
theorem dX9_rule_107 : decode cX9_rule 107 = .ok (.getfield 115, 3) := by decide +kernel
theorem dX9_rule_110 : decode cX9_rule 110 = .ok (.ireturn, 1) := by decide +kernel
theorem dX9_rule_111 : decode cX9_rule 111 = .ok (.aload_n 0, 1) := by decide +kernel
theorem dX9_rule_112 : decode cX9_rule 112 = .ok (.getfield 24, 3) := by decide +kernel
theorem dX9_rule_115 : decode cX9_rule 115 = .ok (.invokevirtual 118, 3) := by decide +kernel
theorem dX9_rule_118 : decode cX9_rule 118 = .ok (.ireturn, 1) := by decide +kernel
theorem dX9_rule_119 : decode cX9_rule 119 = .ok (.iconst (-1), 1) := by decide +kernel
theorem dX9_rule_120 : decode cX9_rule 120 = .ok (.ireturn, 1) := by decide +kernel
theorem dX9_sign_0 : decode cX9_sign 0 = .ok (.aload_n 0, 1) := by decide +kernel
theorem dX9_sign_1 : decode cX9_sign 1 = .ok (.getfield 32, 3) := by decide +kernel
theorem dX9_sign_4 : decode cX9_sign 4 = .ok (.iload_n 1, 1) := by decide +kernel
theorem dX9_sign_5 : decode cX9_sign 5 = .ok (.invokevirtual 121, 3) := by decide +kernel
theorem dX9_sign_8 : decode cX9_sign 8 = .ok (.ifCond .ne 5, 3) := by decide +kernel
theorem dX9_sign_11 : decode cX9_sign 11 = .ok (.iconst (-1), 1) := by decide +kernel
theorem dX9_sign_12 : decode cX9_sign 12 = .ok (.ireturn, 1) := by decide +kernel
theorem dX9_sign_13 : decode cX9_sign 13 = .ok (.iload_n 2, 1) := by decide +kernel
theorem dX9_sign_14 : decode cX9_sign 14 = .ok (.tableswitch 146 0 8 #[50, 59, 69, 79, 89, 99, 111, 123, 136], 50) := by decide +kernel
theorem dX9_sign_64 : decode cX9_sign 64 = .ok (.aload_n 0, 1) := by decide +kernel
theorem dX9_sign_65 : decode cX9_sign 65 = .ok (.getfield 32, 3) := by decide +kernel
theorem dX9_sign_68 : decode cX9_sign 68 = .ok (.iload_n 1, 1) := by decide +kernel
theorem dX9_sign_69 : decode cX9_sign 69 = .ok (.invokevirtual 125, 3) := by decide +kernel
theorem dX9_sign_72 : decode cX9_sign 72 = .ok (.ireturn, 1) := by decide +kernel
theorem dX9_sign_73 : decode cX9_sign 73 = .ok (.aload_n 0, 1) := by decide +kernel
theorem dX9_sign_74 : decode cX9_sign 74 = .ok (.getfield 24, 3) := by decide +kernel
theorem dX9_sign_77 : decode cX9_sign 77 = .ok (.getfield 128, 3) := by decide +kernel
theorem dX9_sign_80 : decode cX9_sign 80 = .ok (.iload_n 1, 1) := by decide +kernel
theorem dX9_sign_81 : decode cX9_sign 81 = .ok (.iaload, 1) := by decide +kernel
theorem dX9_sign_82 : decode cX9_sign 82 = .ok (.ireturn, 1) := by decide +kernel
theorem dX9_sign_83 : decode cX9_sign 83 = .ok (.aload_n 0, 1) := by decide +kernel
theorem dX9_sign_84 : decode cX9_sign 84 = .ok (.getfield 24, 3) := by decide +kernel
theorem dX9_sign_87 : decode cX9_sign 87 = .ok (.getfield 131, 3) := by decide +kernel
theorem dX9_sign_90 : decode cX9_sign 90 = .ok (.iload_n 1, 1) := by decide +kernel
theorem dX9_sign_91 : decode cX9_sign 91 = .ok (.iaload, 1) := by decide +kernel
theorem dX9_sign_92 : decode cX9_sign 92 = .ok (.ireturn, 1) := by decide +kernel
theorem dX9_sign_93 : decode cX9_sign 93 = .ok (.aload_n 0, 1) := by decide +kernel
theorem dX9_sign_94 : decode cX9_sign 94 = .ok (.getfield 24, 3) := by decide +kernel
theorem dX9_sign_97 : decode cX9_sign 97 = .ok (.getfield 134, 3) := by decide +kernel
theorem dX9_sign_100 : decode cX9_sign 100 = .ok (.iload_n 1, 1) := by decide +kernel
theorem dX9_sign_101 : decode cX9_sign 101 = .ok (.iaload, 1) := by decide +kernel
theorem dX9_sign_102 : decode cX9_sign 102 = .ok (.ireturn, 1) := by decide +kernel
theorem dX9_sign_103 : decode cX9_sign 103 = .ok (.aload_n 0, 1) := by decide +kernel
theorem dX9_sign_104 : decode cX9_sign 104 = .ok (.getfield 24, 3) := by decide +kernel
theorem dX9_sign_107 : decode cX9_sign 107 = .ok (.getfield 137, 3) := by decide +kernel
theorem dX9_sign_110 : decode cX9_sign 110 = .ok (.iload_n 1, 1) := by decide +kernel
theorem dX9_sign_111 : decode cX9_sign 111 = .ok (.iaload, 1) := by decide +kernel
theorem dX9_sign_112 : decode cX9_sign 112 = .ok (.ireturn, 1) := by decide +kernel
theorem dX9_sign_113 : decode cX9_sign 113 = .ok (.aload_n 0, 1) := by decide +kernel
theorem dX9_sign_114 : decode cX9_sign 114 = .ok (.getfield 24, 3) := by decide +kernel
theorem dX9_sign_117 : decode cX9_sign 117 = .ok (.iload_n 1, 1) := by decide +kernel
theorem dX9_sign_118 : decode cX9_sign 118 = .ok (.invokevirtual 140, 3) := by decide +kernel
theorem dX9_sign_121 : decode cX9_sign 121 = .ok (.invokestatic 143, 3) := by decide +kernel
theorem dX9_sign_124 : decode cX9_sign 124 = .ok (.ireturn, 1) := by decide +kernel
theorem dX9_sign_125 : decode cX9_sign 125 = .ok (.aload_n 0, 1) := by decide +kernel
theorem dX9_sign_126 : decode cX9_sign 126 = .ok (.getfield 32, 3) := by decide +kernel
theorem dX9_sign_129 : decode cX9_sign 129 = .ok (.iload_n 1, 1) := by decide +kernel
theorem dX9_sign_130 : decode cX9_sign 130 = .ok (.invokevirtual 147, 3) := by decide +kernel
theorem dX9_sign_133 : decode cX9_sign 133 = .ok (.invokestatic 143, 3) := by decide +kernel
theorem dX9_sign_136 : decode cX9_sign 136 = .ok (.ireturn, 1) := by decide +kernel
theorem dX9_sign_137 : decode cX9_sign 137 = .ok (.aload_n 0, 1) := by decide +kernel
theorem dX9_sign_138 : decode cX9_sign 138 = .ok (.getfield 24, 3) := by decide +kernel
theorem dX9_sign_141 : decode cX9_sign 141 = .ok (.getfield 150, 3) := by decide +kernel
theorem dX9_sign_144 : decode cX9_sign 144 = .ok (.iload_n 1, 1) := by decide +kernel
theorem dX9_sign_145 : decode cX9_sign 145 = .ok (.baload, 1) := by decide +kernel
theorem dX9_sign_146 : decode cX9_sign 146 = .ok (.invokestatic 143, 3) := by decide +kernel
theorem dX9_sign_149 : decode cX9_sign 149 = .ok (.ireturn, 1) := by decide +kernel
theorem dX9_sign_150 : decode cX9_sign 150 = .ok (.aload_n 0, 1) := by decide +kernel
theorem dX9_sign_151 : decode cX9_sign 151 = .ok (.getfield 24, 3) := by decide +kernel
theorem dX9_sign_154 : decode cX9_sign 154 = .ok (.getfield 105, 3) := by decide +kernel
theorem dX9_sign_157 : decode cX9_sign 157 = .ok (.iload_n 1, 1) := by decide +kernel
theorem dX9_sign_158 : decode cX9_sign 158 = .ok (.iaload, 1) := by decide +kernel
theorem dX9_sign_159 : decode cX9_sign 159 = .ok (.ireturn, 1) := by decide +kernel
theorem dX9_sign_160 : decode cX9_sign 160 = .ok (.iconst (-1), 1) := by decide +kernel
theorem dX9_sign_161 : decode cX9_sign 161 = .ok (.ireturn, 1) := by decide +kernel
theorem dX9_low_0 : decode cX9_low 0 = .ok (.aload_n 0, 1) := by decide +kernel
theorem dX9_low_1 : decode cX9_low 1 = .ok (.getfield 32, 3) := by decide +kernel
theorem dX9_low_4 : decode cX9_low 4 = .ok (.iload_n 1, 1) := by decide +kernel
theorem dX9_low_5 : decode cX9_low 5 = .ok (.invokevirtual 153, 3) := by decide +kernel
theorem dX9_low_8 : decode cX9_low 8 = .ok (.ifCond .eq 19, 3) := by decide +kernel
theorem dX9_low_11 : decode cX9_low 11 = .ok (.aload_n 0, 1) := by decide +kernel
theorem dX9_low_12 : decode cX9_low 12 = .ok (.getfield 32, 3) := by decide +kernel
theorem dX9_low_15 : decode cX9_low 15 = .ok (.iload_n 2, 1) := by decide +kernel
theorem dX9_low_16 : decode cX9_low 16 = .ok (.invokevirtual 153, 3) := by decide +kernel
theorem dX9_low_19 : decode cX9_low 19 = .ok (.ifCond .eq 8, 3) := by decide +kernel
theorem dX9_low_22 : decode cX9_low 22 = .ok (.iload_n 2, 1) := by decide +kernel
theorem dX9_low_23 : decode cX9_low 23 = .ok (.iload_n 1, 1) := by decide +kernel
theorem dX9_low_24 : decode cX9_low 24 = .ok (.if_icmp .ge 5, 3) := by decide +kernel
theorem dX9_low_27 : decode cX9_low 27 = .ok (.iconst (-1), 1) := by decide +kernel
theorem dX9_low_28 : decode cX9_low 28 = .ok (.ireturn, 1) := by decide +kernel
theorem dX9_low_29 : decode cX9_low 29 = .ok (.aload_n 0, 1) := by decide +kernel
theorem dX9_low_30 : decode cX9_low 30 = .ok (.getfield 24, 3) := by decide +kernel
theorem dX9_low_33 : decode cX9_low 33 = .ok (.iload_n 1, 1) := by decide +kernel
theorem dX9_low_34 : decode cX9_low 34 = .ok (.iload_n 2, 1) := by decide +kernel
theorem dX9_low_35 : decode cX9_low 35 = .ok (.invokevirtual 156, 3) := by decide +kernel
theorem dX9_low_38 : decode cX9_low 38 = .ok (.ireturn, 1) := by decide +kernel
theorem dX9_around_0 : decode cX9_around 0 = .ok (.aload_n 0, 1) := by decide +kernel
theorem dX9_around_1 : decode cX9_around 1 = .ok (.getfield 32, 3) := by decide +kernel
theorem dX9_around_4 : decode cX9_around 4 = .ok (.iload_n 1, 1) := by decide +kernel
theorem dX9_around_5 : decode cX9_around 5 = .ok (.invokevirtual 121, 3) := by decide +kernel
theorem dX9_around_8 : decode cX9_around 8 = .ok (.ifCond .eq 12, 3) := by decide +kernel
theorem dX9_around_11 : decode cX9_around 11 = .ok (.iload_n 2, 1) := by decide +kernel
theorem dX9_around_12 : decode cX9_around 12 = .ok (.ifCond .lt 8, 3) := by decide +kernel
theorem dX9_around_15 : decode cX9_around 15 = .ok (.iload_n 2, 1) := by decide +kernel
theorem dX9_around_16 : decode cX9_around 16 = .ok (.iconst 3, 1) := by decide +kernel
theorem dX9_around_17 : decode cX9_around 17 = .ok (.if_icmp .le 5, 3) := by decide +kernel
theorem dX9_around_20 : decode cX9_around 20 = .ok (.iconst (-1), 1) := by decide +kernel
theorem dX9_around_21 : decode cX9_around 21 = .ok (.ireturn, 1) := by decide +kernel
theorem dX9_around_22 : decode cX9_around 22 = .ok (.aload_n 0, 1) := by decide +kernel
theorem dX9_around_23 : decode cX9_around 23 = .ok (.getfield 24, 3) := by decide +kernel
theorem dX9_around_26 : decode cX9_around 26 = .ok (.iload_n 1, 1) := by decide +kernel
theorem dX9_around_27 : decode cX9_around 27 = .ok (.iload_n 2, 1) := by decide +kernel
theorem dX9_around_28 : decode cX9_around 28 = .ok (.invokevirtual 160, 3) := by decide +kernel
theorem dX9_around_31 : decode cX9_around 31 = .ok (.ireturn, 1) := by decide +kernel
theorem dX9_whole_0 : decode cX9_whole 0 = .ok (.aload_n 0, 1) := by decide +kernel
theorem dX9_whole_1 : decode cX9_whole 1 = .ok (.getfield 32, 3) := by decide +kernel
theorem dX9_whole_4 : decode cX9_whole 4 = .ok (.iload_n 1, 1) := by decide +kernel
theorem dX9_whole_5 : decode cX9_whole 5 = .ok (.invokevirtual 153, 3) := by decide +kernel
theorem dX9_whole_8 : decode cX9_whole 8 = .ok (.ifCond .ne 5, 3) := by decide +kernel
theorem dX9_whole_11 : decode cX9_whole 11 = .ok (.iconst (-1), 1) := by decide +kernel
theorem dX9_whole_12 : decode cX9_whole 12 = .ok (.ireturn, 1) := by decide +kernel
theorem dX9_whole_13 : decode cX9_whole 13 = .ok (.aload_n 0, 1) := by decide +kernel
theorem dX9_whole_14 : decode cX9_whole 14 = .ok (.getfield 24, 3) := by decide +kernel
theorem dX9_whole_17 : decode cX9_whole 17 = .ok (.iload_n 1, 1) := by decide +kernel
theorem dX9_whole_18 : decode cX9_whole 18 = .ok (.invokevirtual 163, 3) := by decide +kernel
theorem dX9_whole_21 : decode cX9_whole 21 = .ok (.ireturn, 1) := by decide +kernel
theorem dX9_bare_0 : decode cX9_bare 0 = .ok (.aload_n 0, 1) := by decide +kernel
theorem dX9_bare_1 : decode cX9_bare 1 = .ok (.getfield 32, 3) := by decide +kernel
theorem dX9_bare_4 : decode cX9_bare 4 = .ok (.iload_n 1, 1) := by decide +kernel
theorem dX9_bare_5 : decode cX9_bare 5 = .ok (.invokevirtual 153, 3) := by decide +kernel
theorem dX9_bare_8 : decode cX9_bare 8 = .ok (.ifCond .ne 5, 3) := by decide +kernel
theorem dX9_bare_11 : decode cX9_bare 11 = .ok (.iconst (-1), 1) := by decide +kernel
theorem dX9_bare_12 : decode cX9_bare 12 = .ok (.ireturn, 1) := by decide +kernel
theorem dX9_bare_13 : decode cX9_bare 13 = .ok (.iload_n 2, 1) := by decide +kernel
theorem dX9_bare_14 : decode cX9_bare 14 = .ok (.lookupswitch 44 #[(0, 26), (1, 35)], 26) := by decide +kernel
theorem dX9_bare_40 : decode cX9_bare 40 = .ok (.aload_n 0, 1) := by decide +kernel
theorem dX9_bare_41 : decode cX9_bare 41 = .ok (.getfield 24, 3) := by decide +kernel
theorem dX9_bare_44 : decode cX9_bare 44 = .ok (.iload_n 1, 1) := by decide +kernel
theorem dX9_bare_45 : decode cX9_bare 45 = .ok (.invokevirtual 166, 3) := by decide +kernel
theorem dX9_bare_48 : decode cX9_bare 48 = .ok (.ireturn, 1) := by decide +kernel
theorem dX9_bare_49 : decode cX9_bare 49 = .ok (.aload_n 0, 1) := by decide +kernel
theorem dX9_bare_50 : decode cX9_bare 50 = .ok (.getfield 24, 3) := by decide +kernel
theorem dX9_bare_53 : decode cX9_bare 53 = .ok (.iload_n 1, 1) := by decide +kernel
theorem dX9_bare_54 : decode cX9_bare 54 = .ok (.invokevirtual 169, 3) := by decide +kernel
theorem dX9_bare_57 : decode cX9_bare 57 = .ok (.ireturn, 1) := by decide +kernel
theorem dX9_bare_58 : decode cX9_bare 58 = .ok (.iconst (-1), 1) := by decide +kernel
theorem dX9_bare_59 : decode cX9_bare 59 = .ok (.ireturn, 1) := by decide +kernel
theorem dX9_longest_0 : decode cX9_longest 0 = .ok (.iload_n 1, 1) := by decide +kernel
theorem dX9_longest_1 : decode cX9_longest 1 = .ok (.ifCond .lt 8, 3) := by decide +kernel
theorem dX9_longest_4 : decode cX9_longest 4 = .ok (.iload_n 1, 1) := by decide +kernel
theorem dX9_longest_5 : decode cX9_longest 5 = .ok (.iconst 1, 1) := by decide +kernel
theorem dX9_longest_6 : decode cX9_longest 6 = .ok (.if_icmp .le 5, 3) := by decide +kernel
theorem dX9_longest_9 : decode cX9_longest 9 = .ok (.iconst (-1), 1) := by decide +kernel
theorem dX9_longest_10 : decode cX9_longest 10 = .ok (.ireturn, 1) := by decide +kernel
theorem dX9_longest_11 : decode cX9_longest 11 = .ok (.aload_n 0, 1) := by decide +kernel
theorem dX9_longest_12 : decode cX9_longest 12 = .ok (.getfield 24, 3) := by decide +kernel
theorem dX9_longest_15 : decode cX9_longest 15 = .ok (.invokevirtual 172, 3) := by decide +kernel
theorem dX9_longest_18 : decode cX9_longest 18 = .ok (.istore_n 2, 1) := by decide +kernel
theorem dX9_longest_19 : decode cX9_longest 19 = .ok (.iload_n 1, 1) := by decide +kernel
theorem dX9_longest_20 : decode cX9_longest 20 = .ok (.ifCond .ne 7, 3) := by decide +kernel
theorem dX9_longest_23 : decode cX9_longest 23 = .ok (.iload_n 2, 1) := by decide +kernel
theorem dX9_longest_24 : decode cX9_longest 24 = .ok (.goto 13, 3) := by decide +kernel
theorem dX9_longest_27 : decode cX9_longest 27 = .ok (.aload_n 0, 1) := by decide +kernel
theorem dX9_longest_28 : decode cX9_longest 28 = .ok (.getfield 24, 3) := by decide +kernel
theorem dX9_longest_31 : decode cX9_longest 31 = .ok (.iload_n 2, 1) := by decide +kernel
theorem dX9_longest_32 : decode cX9_longest 32 = .ok (.invokevirtual 163, 3) := by decide +kernel
theorem dX9_longest_35 : decode cX9_longest 35 = .ok (.iload_n 2, 1) := by decide +kernel
theorem dX9_longest_36 : decode cX9_longest 36 = .ok (.isub, 1) := by decide +kernel
theorem dX9_longest_37 : decode cX9_longest 37 = .ok (.ireturn, 1) := by decide +kernel
theorem dX9_seen_0 : decode cX9_seen 0 = .ok (.iload_n 1, 1) := by decide +kernel
theorem dX9_seen_1 : decode cX9_seen 1 = .ok (.ifCond .ge 5, 3) := by decide +kernel
theorem dX9_seen_4 : decode cX9_seen 4 = .ok (.iconst (-1), 1) := by decide +kernel
theorem dX9_seen_5 : decode cX9_seen 5 = .ok (.ireturn, 1) := by decide +kernel
theorem dX9_seen_6 : decode cX9_seen 6 = .ok (.aload_n 0, 1) := by decide +kernel
theorem dX9_seen_7 : decode cX9_seen 7 = .ok (.getfield 24, 3) := by decide +kernel
theorem dX9_seen_10 : decode cX9_seen 10 = .ok (.iload_n 1, 1) := by decide +kernel
theorem dX9_seen_11 : decode cX9_seen 11 = .ok (.invokevirtual 175, 3) := by decide +kernel
theorem dX9_seen_14 : decode cX9_seen 14 = .ok (.ireturn, 1) := by decide +kernel
theorem dX9_put_0 : decode cX9_put 0 = .ok (.aload_n 0, 1) := by decide +kernel
theorem dX9_put_1 : decode cX9_put 1 = .ok (.getfield 32, 3) := by decide +kernel
theorem dX9_put_4 : decode cX9_put 4 = .ok (.iload_n 1, 1) := by decide +kernel
theorem dX9_put_5 : decode cX9_put 5 = .ok (.invokevirtual 121, 3) := by decide +kernel
theorem dX9_put_8 : decode cX9_put 8 = .ok (.ifCond .eq 10, 3) := by decide +kernel
theorem dX9_put_11 : decode cX9_put 11 = .ok (.iload_n 2, 1) := by decide +kernel
theorem dX9_put_12 : decode cX9_put 12 = .ok (.invokestatic 178, 3) := by decide +kernel
theorem dX9_put_15 : decode cX9_put 15 = .ok (.ifCond .ne 5, 3) := by decide +kernel
theorem dX9_put_18 : decode cX9_put 18 = .ok (.iconst (-1), 1) := by decide +kernel
theorem dX9_put_19 : decode cX9_put 19 = .ok (.ireturn, 1) := by decide +kernel
theorem dX9_put_20 : decode cX9_put 20 = .ok (.aload_n 0, 1) := by decide +kernel
theorem dX9_put_21 : decode cX9_put 21 = .ok (.getfield 32, 3) := by decide +kernel
theorem dX9_put_24 : decode cX9_put 24 = .ok (.iload_n 1, 1) := by decide +kernel
theorem dX9_put_25 : decode cX9_put 25 = .ok (.invokevirtual 125, 3) := by decide +kernel
theorem dX9_put_28 : decode cX9_put 28 = .ok (.istore_n 3, 1) := by decide +kernel
theorem dX9_put_29 : decode cX9_put 29 = .ok (.aload_n 0, 1) := by decide +kernel
theorem dX9_put_30 : decode cX9_put 30 = .ok (.getfield 32, 3) := by decide +kernel
theorem dX9_put_33 : decode cX9_put 33 = .ok (.iload_n 1, 1) := by decide +kernel
theorem dX9_put_34 : decode cX9_put 34 = .ok (.iload_n 2, 1) := by decide +kernel
theorem dX9_put_35 : decode cX9_put 35 = .ok (.invokevirtual 183, 3) := by decide +kernel
theorem dX9_put_38 : decode cX9_put 38 = .ok (.aload_n 0, 1) := by decide +kernel
theorem dX9_put_39 : decode cX9_put 39 = .ok (.iload_n 3, 1) := by decide +kernel
theorem dX9_put_40 : decode cX9_put 40 = .ok (.invokevirtual 187, 3) := by decide +kernel
theorem dX9_put_43 : decode cX9_put 43 = .ok (.ireturn, 1) := by decide +kernel
theorem dX9_insert_0 : decode cX9_insert 0 = .ok (.aload_n 0, 1) := by decide +kernel
theorem dX9_insert_1 : decode cX9_insert 1 = .ok (.getfield 32, 3) := by decide +kernel
theorem dX9_insert_4 : decode cX9_insert 4 = .ok (.iload_n 1, 1) := by decide +kernel
theorem dX9_insert_5 : decode cX9_insert 5 = .ok (.invokevirtual 153, 3) := by decide +kernel
theorem dX9_insert_8 : decode cX9_insert 8 = .ok (.ifCond .eq 10, 3) := by decide +kernel
theorem dX9_insert_11 : decode cX9_insert 11 = .ok (.iload_n 2, 1) := by decide +kernel
theorem dX9_insert_12 : decode cX9_insert 12 = .ok (.invokestatic 178, 3) := by decide +kernel
theorem dX9_insert_15 : decode cX9_insert 15 = .ok (.ifCond .ne 5, 3) := by decide +kernel
theorem dX9_insert_18 : decode cX9_insert 18 = .ok (.iconst (-1), 1) := by decide +kernel
theorem dX9_insert_19 : decode cX9_insert 19 = .ok (.ireturn, 1) := by decide +kernel
theorem dX9_insert_20 : decode cX9_insert 20 = .ok (.aload_n 0, 1) := by decide +kernel
theorem dX9_insert_21 : decode cX9_insert 21 = .ok (.getfield 32, 3) := by decide +kernel
theorem dX9_insert_24 : decode cX9_insert 24 = .ok (.invokevirtual 190, 3) := by decide +kernel
theorem dX9_insert_27 : decode cX9_insert 27 = .ok (.iconst 1, 1) := by decide +kernel
theorem dX9_insert_28 : decode cX9_insert 28 = .ok (.if_icmp .ge 6, 3) := by decide +kernel
theorem dX9_insert_31 : decode cX9_insert 31 = .ok (.bipush (-3), 2) := by decide +kernel
theorem dX9_insert_33 : decode cX9_insert 33 = .ok (.ireturn, 1) := by decide +kernel
theorem dX9_insert_34 : decode cX9_insert 34 = .ok (.aload_n 0, 1) := by decide +kernel
theorem dX9_insert_35 : decode cX9_insert 35 = .ok (.getfield 32, 3) := by decide +kernel
theorem dX9_insert_38 : decode cX9_insert 38 = .ok (.iload_n 1, 1) := by decide +kernel
theorem dX9_insert_39 : decode cX9_insert 39 = .ok (.iload_n 2, 1) := by decide +kernel
theorem dX9_insert_40 : decode cX9_insert 40 = .ok (.invokevirtual 193, 3) := by decide +kernel
theorem dX9_insert_43 : decode cX9_insert 43 = .ok (.aload_n 0, 1) := by decide +kernel
theorem dX9_insert_44 : decode cX9_insert 44 = .ok (.aload_n 0, 1) := by decide +kernel
theorem dX9_insert_45 : decode cX9_insert 45 = .ok (.getfield 32, 3) := by decide +kernel
theorem dX9_insert_48 : decode cX9_insert 48 = .ok (.getfield 102, 3) := by decide +kernel
theorem dX9_insert_51 : decode cX9_insert 51 = .ok (.invokevirtual 187, 3) := by decide +kernel
theorem dX9_insert_54 : decode cX9_insert 54 = .ok (.ireturn, 1) := by decide +kernel
theorem dX9_drop_0 : decode cX9_drop 0 = .ok (.aload_n 0, 1) := by decide +kernel
theorem dX9_drop_1 : decode cX9_drop 1 = .ok (.getfield 32, 3) := by decide +kernel
theorem dX9_drop_4 : decode cX9_drop 4 = .ok (.iload_n 1, 1) := by decide +kernel
theorem dX9_drop_5 : decode cX9_drop 5 = .ok (.iload_n 2, 1) := by decide +kernel
theorem dX9_drop_6 : decode cX9_drop 6 = .ok (.invokevirtual 196, 3) := by decide +kernel
theorem dX9_drop_9 : decode cX9_drop 9 = .ok (.ifCond .ne 5, 3) := by decide +kernel
theorem dX9_drop_12 : decode cX9_drop 12 = .ok (.iconst (-1), 1) := by decide +kernel
theorem dX9_drop_13 : decode cX9_drop 13 = .ok (.ireturn, 1) := by decide +kernel
theorem dX9_drop_14 : decode cX9_drop 14 = .ok (.aload_n 0, 1) := by decide +kernel
theorem dX9_drop_15 : decode cX9_drop 15 = .ok (.getfield 32, 3) := by decide +kernel
theorem dX9_drop_18 : decode cX9_drop 18 = .ok (.iload_n 1, 1) := by decide +kernel
theorem dX9_drop_19 : decode cX9_drop 19 = .ok (.iload_n 2, 1) := by decide +kernel
theorem dX9_drop_20 : decode cX9_drop 20 = .ok (.invokevirtual 200, 3) := by decide +kernel
theorem dX9_drop_23 : decode cX9_drop 23 = .ok (.aload_n 0, 1) := by decide +kernel
theorem dX9_drop_24 : decode cX9_drop 24 = .ok (.aload_n 0, 1) := by decide +kernel
theorem dX9_drop_25 : decode cX9_drop 25 = .ok (.getfield 32, 3) := by decide +kernel
theorem dX9_drop_28 : decode cX9_drop 28 = .ok (.getfield 102, 3) := by decide +kernel
theorem dX9_drop_31 : decode cX9_drop 31 = .ok (.invokevirtual 187, 3) := by decide +kernel
theorem dX9_drop_34 : decode cX9_drop 34 = .ok (.ireturn, 1) := by decide +kernel
theorem dX9_move_0 : decode cX9_move 0 = .ok (.aload_n 0, 1) := by decide +kernel
theorem dX9_move_1 : decode cX9_move 1 = .ok (.getfield 32, 3) := by decide +kernel
theorem dX9_move_4 : decode cX9_move 4 = .ok (.iload_n 1, 1) := by decide +kernel
theorem dX9_move_5 : decode cX9_move 5 = .ok (.iload_n 2, 1) := by decide +kernel
theorem dX9_move_6 : decode cX9_move 6 = .ok (.invokevirtual 196, 3) := by decide +kernel
theorem dX9_move_9 : decode cX9_move 9 = .ok (.ifCond .eq 26, 3) := by decide +kernel
theorem dX9_move_12 : decode cX9_move 12 = .ok (.aload_n 0, 1) := by decide +kernel
theorem dX9_move_13 : decode cX9_move 13 = .ok (.getfield 32, 3) := by decide +kernel
theorem dX9_move_16 : decode cX9_move 16 = .ok (.iload_n 3, 1) := by decide +kernel
theorem dX9_move_17 : decode cX9_move 17 = .ok (.invokevirtual 153, 3) := by decide +kernel
theorem dX9_move_20 : decode cX9_move 20 = .ok (.ifCond .eq 15, 3) := by decide +kernel
theorem dX9_move_23 : decode cX9_move 23 = .ok (.iload_n 3, 1) := by decide +kernel
theorem dX9_move_24 : decode cX9_move 24 = .ok (.iload_n 1, 1) := by decide +kernel
theorem dX9_move_25 : decode cX9_move 25 = .ok (.if_icmp .le 12, 3) := by decide +kernel
theorem dX9_move_28 : decode cX9_move 28 = .ok (.iload_n 3, 1) := by decide +kernel
theorem dX9_move_29 : decode cX9_move 29 = .ok (.iload_n 1, 1) := by decide +kernel
theorem dX9_move_30 : decode cX9_move 30 = .ok (.iload_n 2, 1) := by decide +kernel
theorem dX9_move_31 : decode cX9_move 31 = .ok (.iadd, 1) := by decide +kernel
theorem dX9_move_32 : decode cX9_move 32 = .ok (.if_icmp .ge 5, 3) := by decide +kernel
theorem dX9_move_35 : decode cX9_move 35 = .ok (.iconst (-1), 1) := by decide +kernel
theorem dX9_move_36 : decode cX9_move 36 = .ok (.ireturn, 1) := by decide +kernel
theorem dX9_move_37 : decode cX9_move 37 = .ok (.aload_n 0, 1) := by decide +kernel
theorem dX9_move_38 : decode cX9_move 38 = .ok (.getfield 32, 3) := by decide +kernel
theorem dX9_move_41 : decode cX9_move 41 = .ok (.iload_n 1, 1) := by decide +kernel
theorem dX9_move_42 : decode cX9_move 42 = .ok (.iload_n 2, 1) := by decide +kernel
theorem dX9_move_43 : decode cX9_move 43 = .ok (.iload_n 3, 1) := by decide +kernel
theorem dX9_move_44 : decode cX9_move 44 = .ok (.invokevirtual 203, 3) := by decide +kernel
theorem dX9_move_47 : decode cX9_move 47 = .ok (.aload_n 0, 1) := by decide +kernel
theorem dX9_move_48 : decode cX9_move 48 = .ok (.iconst 1, 1) := by decide +kernel
theorem dX9_move_49 : decode cX9_move 49 = .ok (.invokevirtual 187, 3) := by decide +kernel
theorem dX9_move_52 : decode cX9_move 52 = .ok (.ireturn, 1) := by decide +kernel
theorem dX9_copy_0 : decode cX9_copy 0 = .ok (.aload_n 0, 1) := by decide +kernel
theorem dX9_copy_1 : decode cX9_copy 1 = .ok (.getfield 32, 3) := by decide +kernel
theorem dX9_copy_4 : decode cX9_copy 4 = .ok (.iload_n 1, 1) := by decide +kernel
theorem dX9_copy_5 : decode cX9_copy 5 = .ok (.iload_n 2, 1) := by decide +kernel
theorem dX9_copy_6 : decode cX9_copy 6 = .ok (.invokevirtual 196, 3) := by decide +kernel
theorem dX9_copy_9 : decode cX9_copy 9 = .ok (.ifCond .eq 14, 3) := by decide +kernel
theorem dX9_copy_12 : decode cX9_copy 12 = .ok (.aload_n 0, 1) := by decide +kernel
theorem dX9_copy_13 : decode cX9_copy 13 = .ok (.getfield 32, 3) := by decide +kernel
theorem dX9_copy_16 : decode cX9_copy 16 = .ok (.iload_n 3, 1) := by decide +kernel
theorem dX9_copy_17 : decode cX9_copy 17 = .ok (.invokevirtual 153, 3) := by decide +kernel
theorem dX9_copy_20 : decode cX9_copy 20 = .ok (.ifCond .ne 5, 3) := by decide +kernel
theorem dX9_copy_23 : decode cX9_copy 23 = .ok (.iconst (-1), 1) := by decide +kernel
theorem dX9_copy_24 : decode cX9_copy 24 = .ok (.ireturn, 1) := by decide +kernel
theorem dX9_copy_25 : decode cX9_copy 25 = .ok (.aload_n 0, 1) := by decide +kernel
theorem dX9_copy_26 : decode cX9_copy 26 = .ok (.getfield 32, 3) := by decide +kernel
theorem dX9_copy_29 : decode cX9_copy 29 = .ok (.invokevirtual 190, 3) := by decide +kernel
theorem dX9_copy_32 : decode cX9_copy 32 = .ok (.iload_n 2, 1) := by decide +kernel
theorem dX9_copy_33 : decode cX9_copy 33 = .ok (.if_icmp .ge 6, 3) := by decide +kernel
theorem dX9_copy_36 : decode cX9_copy 36 = .ok (.bipush (-3), 2) := by decide +kernel
theorem dX9_copy_38 : decode cX9_copy 38 = .ok (.ireturn, 1) := by decide +kernel
theorem dX9_copy_39 : decode cX9_copy 39 = .ok (.aload_n 0, 1) := by decide +kernel
theorem dX9_copy_40 : decode cX9_copy 40 = .ok (.getfield 32, 3) := by decide +kernel
theorem dX9_copy_43 : decode cX9_copy 43 = .ok (.iload_n 1, 1) := by decide +kernel
theorem dX9_copy_44 : decode cX9_copy 44 = .ok (.iload_n 2, 1) := by decide +kernel
theorem dX9_copy_45 : decode cX9_copy 45 = .ok (.iload_n 3, 1) := by decide +kernel
theorem dX9_copy_46 : decode cX9_copy 46 = .ok (.invokevirtual 207, 3) := by decide +kernel
theorem dX9_copy_49 : decode cX9_copy 49 = .ok (.aload_n 0, 1) := by decide +kernel
theorem dX9_copy_50 : decode cX9_copy 50 = .ok (.aload_n 0, 1) := by decide +kernel
theorem dX9_copy_51 : decode cX9_copy 51 = .ok (.getfield 32, 3) := by decide +kernel
theorem dX9_copy_54 : decode cX9_copy 54 = .ok (.getfield 102, 3) := by decide +kernel
theorem dX9_copy_57 : decode cX9_copy 57 = .ok (.invokevirtual 187, 3) := by decide +kernel
theorem dX9_copy_60 : decode cX9_copy 60 = .ok (.ireturn, 1) := by decide +kernel
theorem dX9_turn_0 : decode cX9_turn 0 = .ok (.aload_n 0, 1) := by decide +kernel
theorem dX9_turn_1 : decode cX9_turn 1 = .ok (.getfield 32, 3) := by decide +kernel
theorem dX9_turn_4 : decode cX9_turn 4 = .ok (.iload_n 1, 1) := by decide +kernel
theorem dX9_turn_5 : decode cX9_turn 5 = .ok (.iload_n 2, 1) := by decide +kernel
theorem dX9_turn_6 : decode cX9_turn 6 = .ok (.invokevirtual 196, 3) := by decide +kernel
theorem dX9_turn_9 : decode cX9_turn 9 = .ok (.ifCond .ne 5, 3) := by decide +kernel
theorem dX9_turn_12 : decode cX9_turn 12 = .ok (.iconst (-1), 1) := by decide +kernel
theorem dX9_turn_13 : decode cX9_turn 13 = .ok (.ireturn, 1) := by decide +kernel
theorem dX9_turn_14 : decode cX9_turn 14 = .ok (.aload_n 0, 1) := by decide +kernel
theorem dX9_turn_15 : decode cX9_turn 15 = .ok (.aload_n 0, 1) := by decide +kernel
theorem dX9_turn_16 : decode cX9_turn 16 = .ok (.getfield 32, 3) := by decide +kernel
theorem dX9_turn_19 : decode cX9_turn 19 = .ok (.iload_n 1, 1) := by decide +kernel
theorem dX9_turn_20 : decode cX9_turn 20 = .ok (.iload_n 2, 1) := by decide +kernel
theorem dX9_turn_21 : decode cX9_turn 21 = .ok (.invokevirtual 210, 3) := by decide +kernel
theorem dX9_turn_24 : decode cX9_turn 24 = .ok (.invokevirtual 187, 3) := by decide +kernel
theorem dX9_turn_27 : decode cX9_turn 27 = .ok (.ireturn, 1) := by decide +kernel
theorem dX9_mark_0 : decode cX9_mark 0 = .ok (.aload_n 0, 1) := by decide +kernel
theorem dX9_mark_1 : decode cX9_mark 1 = .ok (.getfield 32, 3) := by decide +kernel
theorem dX9_mark_4 : decode cX9_mark 4 = .ok (.iload_n 1, 1) := by decide +kernel
theorem dX9_mark_5 : decode cX9_mark 5 = .ok (.invokevirtual 121, 3) := by decide +kernel
theorem dX9_mark_8 : decode cX9_mark 8 = .ok (.ifCond .eq 26, 3) := by decide +kernel
theorem dX9_mark_11 : decode cX9_mark 11 = .ok (.iload_n 2, 1) := by decide +kernel
theorem dX9_mark_12 : decode cX9_mark 12 = .ok (.ifCond .lt 22, 3) := by decide +kernel
theorem dX9_mark_15 : decode cX9_mark 15 = .ok (.iload_n 2, 1) := by decide +kernel
theorem dX9_mark_16 : decode cX9_mark 16 = .ok (.iconst 1, 1) := by decide +kernel
theorem dX9_mark_17 : decode cX9_mark 17 = .ok (.if_icmp .gt 17, 3) := by decide +kernel
theorem dX9_mark_20 : decode cX9_mark 20 = .ok (.aload_n 0, 1) := by decide +kernel
theorem dX9_mark_21 : decode cX9_mark 21 = .ok (.getfield 32, 3) := by decide +kernel
theorem dX9_mark_24 : decode cX9_mark 24 = .ok (.iload_n 1, 1) := by decide +kernel
theorem dX9_mark_25 : decode cX9_mark 25 = .ok (.invokevirtual 125, 3) := by decide +kernel
theorem dX9_mark_28 : decode cX9_mark 28 = .ok (.invokestatic 213, 3) := by decide +kernel
theorem dX9_mark_31 : decode cX9_mark 31 = .ok (.ifCond .ne 5, 3) := by decide +kernel
theorem dX9_mark_34 : decode cX9_mark 34 = .ok (.iconst (-1), 1) := by decide +kernel
theorem dX9_mark_35 : decode cX9_mark 35 = .ok (.ireturn, 1) := by decide +kernel
theorem dX9_mark_36 : decode cX9_mark 36 = .ok (.aload_n 0, 1) := by decide +kernel
theorem dX9_mark_37 : decode cX9_mark 37 = .ok (.getfield 32, 3) := by decide +kernel
theorem dX9_mark_40 : decode cX9_mark 40 = .ok (.iload_n 1, 1) := by decide +kernel
theorem dX9_mark_41 : decode cX9_mark 41 = .ok (.invokevirtual 147, 3) := by decide +kernel
theorem dX9_mark_44 : decode cX9_mark 44 = .ok (.invokestatic 143, 3) := by decide +kernel
theorem dX9_mark_47 : decode cX9_mark 47 = .ok (.istore_n 3, 1) := by decide +kernel
theorem dX9_mark_48 : decode cX9_mark 48 = .ok (.aload_n 0, 1) := by decide +kernel
theorem dX9_mark_49 : decode cX9_mark 49 = .ok (.getfield 32, 3) := by decide +kernel
theorem dX9_mark_52 : decode cX9_mark 52 = .ok (.iload_n 1, 1) := by decide +kernel
theorem dX9_mark_53 : decode cX9_mark 53 = .ok (.iload_n 2, 1) := by decide +kernel
theorem dX9_mark_54 : decode cX9_mark 54 = .ok (.iconst 1, 1) := by decide +kernel
theorem dX9_mark_55 : decode cX9_mark 55 = .ok (.if_icmp .ne 7, 3) := by decide +kernel
theorem dX9_mark_58 : decode cX9_mark 58 = .ok (.iconst 1, 1) := by decide +kernel
theorem dX9_mark_59 : decode cX9_mark 59 = .ok (.goto 4, 3) := by decide +kernel
theorem dX9_mark_62 : decode cX9_mark 62 = .ok (.iconst 0, 1) := by decide +kernel
theorem dX9_mark_63 : decode cX9_mark 63 = .ok (.invokevirtual 216, 3) := by decide +kernel
theorem dX9_mark_66 : decode cX9_mark 66 = .ok (.aload_n 0, 1) := by decide +kernel
theorem dX9_mark_67 : decode cX9_mark 67 = .ok (.iload_n 3, 1) := by decide +kernel
theorem dX9_mark_68 : decode cX9_mark 68 = .ok (.invokevirtual 187, 3) := by decide +kernel
theorem dX9_mark_71 : decode cX9_mark 71 = .ok (.ireturn, 1) := by decide +kernel
theorem dX9_grow_0 : decode cX9_grow 0 = .ok (.iload_n 2, 1) := by decide +kernel
theorem dX9_grow_1 : decode cX9_grow 1 = .ok (.iconst 1, 1) := by decide +kernel
theorem dX9_grow_2 : decode cX9_grow 2 = .ok (.if_icmp .lt 9, 3) := by decide +kernel
theorem dX9_grow_5 : decode cX9_grow 5 = .ok (.iload_n 2, 1) := by decide +kernel
theorem dX9_grow_6 : decode cX9_grow 6 = .ok (.bipush 30, 2) := by decide +kernel
theorem dX9_grow_8 : decode cX9_grow 8 = .ok (.if_icmp .le 5, 3) := by decide +kernel
theorem dX9_grow_11 : decode cX9_grow 11 = .ok (.iconst (-1), 1) := by decide +kernel
theorem dX9_grow_12 : decode cX9_grow 12 = .ok (.ireturn, 1) := by decide +kernel
theorem dX9_grow_13 : decode cX9_grow 13 = .ok (.iconst 0, 1) := by decide +kernel
theorem dX9_grow_14 : decode cX9_grow 14 = .ok (.istore_n 3, 1) := by decide +kernel
theorem dX9_grow_15 : decode cX9_grow 15 = .ok (.iload_n 1, 1) := by decide +kernel
theorem dX9_grow_16 : decode cX9_grow 16 = .ok (.istore 4, 2) := by decide +kernel
theorem dX9_grow_18 : decode cX9_grow 18 = .ok (.iload_n 3, 1) := by decide +kernel
theorem dX9_grow_19 : decode cX9_grow 19 = .ok (.iload_n 2, 1) := by decide +kernel
theorem dX9_grow_20 : decode cX9_grow 20 = .ok (.if_icmp .ge 72, 3) := by decide +kernel
theorem dX9_grow_23 : decode cX9_grow 23 = .ok (.aload_n 0, 1) := by decide +kernel
theorem dX9_grow_24 : decode cX9_grow 24 = .ok (.getfield 32, 3) := by decide +kernel
theorem dX9_grow_27 : decode cX9_grow 27 = .ok (.invokevirtual 190, 3) := by decide +kernel
theorem dX9_grow_30 : decode cX9_grow 30 = .ok (.ifCond .le 62, 3) := by decide +kernel
theorem dX9_grow_33 : decode cX9_grow 33 = .ok (.iload 4, 2) := by decide +kernel
theorem dX9_grow_35 : decode cX9_grow 35 = .ok (.ldc 220, 2) := by decide +kernel
theorem dX9_grow_37 : decode cX9_grow 37 = .ok (.imul, 1) := by decide +kernel
theorem dX9_grow_38 : decode cX9_grow 38 = .ok (.sipush 12345, 3) := by decide +kernel
theorem dX9_grow_41 : decode cX9_grow 41 = .ok (.iadd, 1) := by decide +kernel
theorem dX9_grow_42 : decode cX9_grow 42 = .ok (.istore 4, 2) := by decide +kernel
theorem dX9_grow_44 : decode cX9_grow 44 = .ok (.iload 4, 2) := by decide +kernel
theorem dX9_grow_46 : decode cX9_grow 46 = .ok (.bipush 16, 2) := by decide +kernel
theorem dX9_grow_48 : decode cX9_grow 48 = .ok (.ishr, 1) := by decide +kernel
theorem dX9_grow_49 : decode cX9_grow 49 = .ok (.sipush 32767, 3) := by decide +kernel
theorem dX9_grow_52 : decode cX9_grow 52 = .ok (.iand, 1) := by decide +kernel
theorem dX9_grow_53 : decode cX9_grow 53 = .ok (.istore 5, 2) := by decide +kernel
theorem dX9_grow_55 : decode cX9_grow 55 = .ok (.aload_n 0, 1) := by decide +kernel
theorem dX9_grow_56 : decode cX9_grow 56 = .ok (.getfield 32, 3) := by decide +kernel
theorem dX9_grow_59 : decode cX9_grow 59 = .ok (.iload 5, 2) := by decide +kernel
theorem dX9_grow_61 : decode cX9_grow 61 = .ok (.aload_n 0, 1) := by decide +kernel
theorem dX9_grow_62 : decode cX9_grow 62 = .ok (.getfield 32, 3) := by decide +kernel
theorem dX9_grow_65 : decode cX9_grow 65 = .ok (.getfield 102, 3) := by decide +kernel
theorem dX9_grow_68 : decode cX9_grow 68 = .ok (.iconst 1, 1) := by decide +kernel
theorem dX9_grow_69 : decode cX9_grow 69 = .ok (.iadd, 1) := by decide +kernel
theorem dX9_grow_70 : decode cX9_grow 70 = .ok (.irem, 1) := by decide +kernel
theorem dX9_grow_71 : decode cX9_grow 71 = .ok (.getstatic 221, 3) := by decide +kernel
theorem dX9_grow_74 : decode cX9_grow 74 = .ok (.iload 5, 2) := by decide +kernel
theorem dX9_grow_76 : decode cX9_grow 76 = .ok (.bipush 64, 2) := by decide +kernel
theorem dX9_grow_78 : decode cX9_grow 78 = .ok (.idiv, 1) := by decide +kernel
theorem dX9_grow_79 : decode cX9_grow 79 = .ok (.bipush 9, 2) := by decide +kernel
theorem dX9_grow_81 : decode cX9_grow 81 = .ok (.irem, 1) := by decide +kernel
theorem dX9_grow_82 : decode cX9_grow 82 = .ok (.caload, 1) := by decide +kernel
theorem dX9_grow_83 : decode cX9_grow 83 = .ok (.invokevirtual 193, 3) := by decide +kernel
theorem dX9_grow_86 : decode cX9_grow 86 = .ok (.iinc 3 1, 3) := by decide +kernel
theorem dX9_grow_89 : decode cX9_grow 89 = .ok (.goto (-71), 3) := by decide +kernel
theorem dX9_grow_92 : decode cX9_grow 92 = .ok (.aload_n 0, 1) := by decide +kernel
theorem dX9_grow_93 : decode cX9_grow 93 = .ok (.iload_n 3, 1) := by decide +kernel
theorem dX9_grow_94 : decode cX9_grow 94 = .ok (.invokevirtual 187, 3) := by decide +kernel
theorem dX9_grow_97 : decode cX9_grow 97 = .ok (.ireturn, 1) := by decide +kernel
theorem dX9_undo_0 : decode cX9_undo 0 = .ok (.aload_n 0, 1) := by decide +kernel
theorem dX9_undo_1 : decode cX9_undo 1 = .ok (.getfield 36, 3) := by decide +kernel
theorem dX9_undo_4 : decode cX9_undo 4 = .ok (.getfield 112, 3) := by decide +kernel
theorem dX9_undo_7 : decode cX9_undo 7 = .ok (.iconst 1, 1) := by decide +kernel
theorem dX9_undo_8 : decode cX9_undo 8 = .ok (.if_icmp .ge 6, 3) := by decide +kernel
theorem dX9_undo_11 : decode cX9_undo 11 = .ok (.bipush (-2), 2) := by decide +kernel
theorem dX9_undo_13 : decode cX9_undo 13 = .ok (.ireturn, 1) := by decide +kernel
theorem dX9_undo_14 : decode cX9_undo 14 = .ok (.aload_n 0, 1) := by decide +kernel
theorem dX9_undo_15 : decode cX9_undo 15 = .ok (.getfield 32, 3) := by decide +kernel
theorem dX9_undo_18 : decode cX9_undo 18 = .ok (.aload_n 0, 1) := by decide +kernel
theorem dX9_undo_19 : decode cX9_undo 19 = .ok (.getfield 36, 3) := by decide +kernel
theorem dX9_undo_22 : decode cX9_undo 22 = .ok (.invokevirtual 225, 3) := by decide +kernel
theorem dX9_undo_25 : decode cX9_undo 25 = .ok (.invokevirtual 87, 3) := by decide +kernel
theorem dX9_undo_28 : decode cX9_undo 28 = .ok (.aload_n 0, 1) := by decide +kernel
theorem dX9_undo_29 : decode cX9_undo 29 = .ok (.getfield 24, 3) := by decide +kernel
theorem dX9_undo_32 : decode cX9_undo 32 = .ok (.invokevirtual 229, 3) := by decide +kernel
theorem dX9_undo_35 : decode cX9_undo 35 = .ok (.aload_n 0, 1) := by decide +kernel
theorem dX9_undo_36 : decode cX9_undo 36 = .ok (.getfield 32, 3) := by decide +kernel
theorem dX9_undo_39 : decode cX9_undo 39 = .ok (.getfield 102, 3) := by decide +kernel
theorem dX9_undo_42 : decode cX9_undo 42 = .ok (.ireturn, 1) := by decide +kernel
theorem dX9_redo_0 : decode cX9_redo 0 = .ok (.aload_n 0, 1) := by decide +kernel
theorem dX9_redo_1 : decode cX9_redo 1 = .ok (.getfield 36, 3) := by decide +kernel
theorem dX9_redo_4 : decode cX9_redo 4 = .ok (.getfield 115, 3) := by decide +kernel
theorem dX9_redo_7 : decode cX9_redo 7 = .ok (.iconst 1, 1) := by decide +kernel
theorem dX9_redo_8 : decode cX9_redo 8 = .ok (.if_icmp .ge 6, 3) := by decide +kernel
theorem dX9_redo_11 : decode cX9_redo 11 = .ok (.bipush (-2), 2) := by decide +kernel
theorem dX9_redo_13 : decode cX9_redo 13 = .ok (.ireturn, 1) := by decide +kernel
theorem dX9_redo_14 : decode cX9_redo 14 = .ok (.aload_n 0, 1) := by decide +kernel
theorem dX9_redo_15 : decode cX9_redo 15 = .ok (.getfield 32, 3) := by decide +kernel
theorem dX9_redo_18 : decode cX9_redo 18 = .ok (.aload_n 0, 1) := by decide +kernel
theorem dX9_redo_19 : decode cX9_redo 19 = .ok (.getfield 36, 3) := by decide +kernel
theorem dX9_redo_22 : decode cX9_redo 22 = .ok (.invokevirtual 232, 3) := by decide +kernel
theorem dX9_redo_25 : decode cX9_redo 25 = .ok (.invokevirtual 87, 3) := by decide +kernel
theorem dX9_redo_28 : decode cX9_redo 28 = .ok (.aload_n 0, 1) := by decide +kernel
theorem dX9_redo_29 : decode cX9_redo 29 = .ok (.getfield 24, 3) := by decide +kernel
theorem dX9_redo_32 : decode cX9_redo 32 = .ok (.invokevirtual 229, 3) := by decide +kernel
theorem dX9_redo_35 : decode cX9_redo 35 = .ok (.aload_n 0, 1) := by decide +kernel
theorem dX9_redo_36 : decode cX9_redo 36 = .ok (.getfield 32, 3) := by decide +kernel
theorem dX9_redo_39 : decode cX9_redo 39 = .ok (.getfield 102, 3) := by decide +kernel
theorem dX9_redo_42 : decode cX9_redo 42 = .ok (.ireturn, 1) := by decide +kernel
theorem dX9_keep_0 : decode cX9_keep 0 = .ok (.iload_n 1, 1) := by decide +kernel
theorem dX9_keep_1 : decode cX9_keep 1 = .ok (.ifCond .lt 8, 3) := by decide +kernel
theorem dX9_keep_4 : decode cX9_keep 4 = .ok (.iload_n 1, 1) := by decide +kernel
theorem dX9_keep_5 : decode cX9_keep 5 = .ok (.iconst 2, 1) := by decide +kernel
theorem dX9_keep_6 : decode cX9_keep 6 = .ok (.if_icmp .lt 5, 3) := by decide +kernel
theorem dX9_keep_9 : decode cX9_keep 9 = .ok (.iconst (-1), 1) := by decide +kernel
theorem dX9_keep_10 : decode cX9_keep 10 = .ok (.ireturn, 1) := by decide +kernel
theorem dX9_keep_11 : decode cX9_keep 11 = .ok (.aload_n 0, 1) := by decide +kernel
theorem dX9_keep_12 : decode cX9_keep 12 = .ok (.getfield 47, 3) := by decide +kernel
theorem dX9_keep_15 : decode cX9_keep 15 = .ok (.iload_n 1, 1) := by decide +kernel
theorem dX9_keep_16 : decode cX9_keep 16 = .ok (.baload, 1) := by decide +kernel
theorem dX9_keep_17 : decode cX9_keep 17 = .ok (.invokestatic 143, 3) := by decide +kernel
theorem dX9_keep_20 : decode cX9_keep 20 = .ok (.istore_n 2, 1) := by decide +kernel
theorem dX9_keep_21 : decode cX9_keep 21 = .ok (.aload_n 0, 1) := by decide +kernel
theorem dX9_keep_22 : decode cX9_keep 22 = .ok (.getfield 42, 3) := by decide +kernel
theorem dX9_keep_25 : decode cX9_keep 25 = .ok (.iload_n 1, 1) := by decide +kernel
theorem dX9_keep_26 : decode cX9_keep 26 = .ok (.aaload, 1) := by decide +kernel
theorem dX9_keep_27 : decode cX9_keep 27 = .ok (.aload_n 0, 1) := by decide +kernel
theorem dX9_keep_28 : decode cX9_keep 28 = .ok (.getfield 32, 3) := by decide +kernel
theorem dX9_keep_31 : decode cX9_keep 31 = .ok (.invokevirtual 87, 3) := by decide +kernel
theorem dX9_keep_34 : decode cX9_keep 34 = .ok (.aload_n 0, 1) := by decide +kernel
theorem dX9_keep_35 : decode cX9_keep 35 = .ok (.getfield 47, 3) := by decide +kernel
theorem dX9_keep_38 : decode cX9_keep 38 = .ok (.iload_n 1, 1) := by decide +kernel
theorem dX9_keep_39 : decode cX9_keep 39 = .ok (.iconst 1, 1) := by decide +kernel
theorem dX9_keep_40 : decode cX9_keep 40 = .ok (.bastore, 1) := by decide +kernel
theorem dX9_keep_41 : decode cX9_keep 41 = .ok (.iload_n 2, 1) := by decide +kernel
theorem dX9_keep_42 : decode cX9_keep 42 = .ok (.ireturn, 1) := by decide +kernel
theorem dX9_back_0 : decode cX9_back 0 = .ok (.iload_n 1, 1) := by decide +kernel
theorem dX9_back_1 : decode cX9_back 1 = .ok (.ifCond .lt 8, 3) := by decide +kernel
theorem dX9_back_4 : decode cX9_back 4 = .ok (.iload_n 1, 1) := by decide +kernel
theorem dX9_back_5 : decode cX9_back 5 = .ok (.iconst 2, 1) := by decide +kernel
theorem dX9_back_6 : decode cX9_back 6 = .ok (.if_icmp .lt 5, 3) := by decide +kernel
theorem dX9_back_9 : decode cX9_back 9 = .ok (.iconst (-1), 1) := by decide +kernel
theorem dX9_back_10 : decode cX9_back 10 = .ok (.ireturn, 1) := by decide +kernel
theorem dX9_back_11 : decode cX9_back 11 = .ok (.aload_n 0, 1) := by decide +kernel
theorem dX9_back_12 : decode cX9_back 12 = .ok (.getfield 47, 3) := by decide +kernel
theorem dX9_back_15 : decode cX9_back 15 = .ok (.iload_n 1, 1) := by decide +kernel
theorem dX9_back_16 : decode cX9_back 16 = .ok (.baload, 1) := by decide +kernel
theorem dX9_back_17 : decode cX9_back 17 = .ok (.ifCond .ne 6, 3) := by decide +kernel
theorem dX9_back_20 : decode cX9_back 20 = .ok (.bipush (-2), 2) := by decide +kernel
theorem dX9_back_22 : decode cX9_back 22 = .ok (.ireturn, 1) := by decide +kernel
theorem dX9_back_23 : decode cX9_back 23 = .ok (.aload_n 0, 1) := by decide +kernel
theorem dX9_back_24 : decode cX9_back 24 = .ok (.getfield 32, 3) := by decide +kernel
theorem dX9_back_27 : decode cX9_back 27 = .ok (.aload_n 0, 1) := by decide +kernel
theorem dX9_back_28 : decode cX9_back 28 = .ok (.getfield 42, 3) := by decide +kernel
theorem dX9_back_31 : decode cX9_back 31 = .ok (.iload_n 1, 1) := by decide +kernel
theorem dX9_back_32 : decode cX9_back 32 = .ok (.aaload, 1) := by decide +kernel
theorem dX9_back_33 : decode cX9_back 33 = .ok (.invokevirtual 87, 3) := by decide +kernel
theorem dX9_back_36 : decode cX9_back 36 = .ok (.aload_n 0, 1) := by decide +kernel
theorem dX9_back_37 : decode cX9_back 37 = .ok (.invokevirtual 91, 3) := by decide +kernel
theorem dX9_back_40 : decode cX9_back 40 = .ok (.ireturn, 1) := by decide +kernel
theorem dX9_sheet_0 : decode cX9_sheet 0 = .ok (.iload_n 1, 1) := by decide +kernel
theorem dX9_sheet_1 : decode cX9_sheet 1 = .ok (.invokestatic 235, 3) := by decide +kernel
theorem dX9_sheet_4 : decode cX9_sheet 4 = .ok (.ifCond .eq 16, 3) := by decide +kernel
theorem dX9_sheet_7 : decode cX9_sheet 7 = .ok (.iload_n 2, 1) := by decide +kernel
theorem dX9_sheet_8 : decode cX9_sheet 8 = .ok (.invokestatic 238, 3) := by decide +kernel
theorem dX9_sheet_11 : decode cX9_sheet 11 = .ok (.ifCond .eq 9, 3) := by decide +kernel
theorem dX9_sheet_14 : decode cX9_sheet 14 = .ok (.iload_n 3, 1) := by decide +kernel
theorem dX9_sheet_15 : decode cX9_sheet 15 = .ok (.bipush 40, 2) := by decide +kernel
theorem dX9_sheet_17 : decode cX9_sheet 17 = .ok (.if_icmp .le 5, 3) := by decide +kernel
theorem dX9_sheet_20 : decode cX9_sheet 20 = .ok (.iconst (-1), 1) := by decide +kernel
theorem dX9_sheet_21 : decode cX9_sheet 21 = .ok (.ireturn, 1) := by decide +kernel
theorem dX9_sheet_22 : decode cX9_sheet 22 = .ok (.iload_n 3, 1) := by decide +kernel
theorem dX9_sheet_23 : decode cX9_sheet 23 = .ok (.ifCond .ge 6, 3) := by decide +kernel
theorem dX9_sheet_26 : decode cX9_sheet 26 = .ok (.bipush (-14), 2) := by decide +kernel
theorem dX9_sheet_28 : decode cX9_sheet 28 = .ok (.ireturn, 1) := by decide +kernel
theorem dX9_sheet_29 : decode cX9_sheet 29 = .ok (.aload_n 0, 1) := by decide +kernel
theorem dX9_sheet_30 : decode cX9_sheet 30 = .ok (.getfield 53, 3) := by decide +kernel
theorem dX9_sheet_33 : decode cX9_sheet 33 = .ok (.iload_n 1, 1) := by decide +kernel
theorem dX9_sheet_34 : decode cX9_sheet 34 = .ok (.aaload, 1) := by decide +kernel
theorem dX9_sheet_35 : decode cX9_sheet 35 = .ok (.iload_n 2, 1) := by decide +kernel
theorem dX9_sheet_36 : decode cX9_sheet 36 = .ok (.iload_n 3, 1) := by decide +kernel
theorem dX9_sheet_37 : decode cX9_sheet 37 = .ok (.invokevirtual 241, 3) := by decide +kernel
theorem dX9_sheet_40 : decode cX9_sheet 40 = .ok (.iconst 1, 1) := by decide +kernel
theorem dX9_sheet_41 : decode cX9_sheet 41 = .ok (.ireturn, 1) := by decide +kernel
theorem dX9_lay_0 : decode cX9_lay 0 = .ok (.iload_n 1, 1) := by decide +kernel
theorem dX9_lay_1 : decode cX9_lay 1 = .ok (.invokestatic 235, 3) := by decide +kernel
theorem dX9_lay_4 : decode cX9_lay 4 = .ok (.ifCond .ne 5, 3) := by decide +kernel
theorem dX9_lay_7 : decode cX9_lay 7 = .ok (.iconst (-1), 1) := by decide +kernel
theorem dX9_lay_8 : decode cX9_lay 8 = .ok (.ireturn, 1) := by decide +kernel
theorem dX9_lay_9 : decode cX9_lay 9 = .ok (.aload_n 0, 1) := by decide +kernel
theorem dX9_lay_10 : decode cX9_lay 10 = .ok (.getfield 53, 3) := by decide +kernel
theorem dX9_lay_13 : decode cX9_lay 13 = .ok (.iload_n 1, 1) := by decide +kernel
theorem dX9_lay_14 : decode cX9_lay 14 = .ok (.aaload, 1) := by decide +kernel
theorem dX9_lay_15 : decode cX9_lay 15 = .ok (.aload_n 0, 1) := by decide +kernel
theorem dX9_lay_16 : decode cX9_lay 16 = .ok (.getfield 53, 3) := by decide +kernel
theorem dX9_lay_19 : decode cX9_lay 19 = .ok (.iload_n 1, 1) := by decide +kernel
theorem dX9_lay_20 : decode cX9_lay 20 = .ok (.aaload, 1) := by decide +kernel
theorem dX9_lay_21 : decode cX9_lay 21 = .ok (.getfield 244, 3) := by decide +kernel
theorem dX9_lay_24 : decode cX9_lay 24 = .ok (.iload_n 2, 1) := by decide +kernel
theorem dX9_lay_25 : decode cX9_lay 25 = .ok (.invokevirtual 247, 3) := by decide +kernel
theorem dX9_lay_28 : decode cX9_lay 28 = .ok (.istore 4, 2) := by decide +kernel
theorem dX9_lay_30 : decode cX9_lay 30 = .ok (.iload 4, 2) := by decide +kernel
theorem dX9_lay_32 : decode cX9_lay 32 = .ok (.ifCond .eq 9, 3) := by decide +kernel
theorem dX9_lay_35 : decode cX9_lay 35 = .ok (.bipush (-10), 2) := by decide +kernel
theorem dX9_lay_37 : decode cX9_lay 37 = .ok (.iload 4, 2) := by decide +kernel
theorem dX9_lay_39 : decode cX9_lay 39 = .ok (.isub, 1) := by decide +kernel
theorem dX9_lay_40 : decode cX9_lay 40 = .ok (.ireturn, 1) := by decide +kernel
theorem dX9_lay_41 : decode cX9_lay 41 = .ok (.aload_n 0, 1) := by decide +kernel
theorem dX9_lay_42 : decode cX9_lay 42 = .ok (.getfield 53, 3) := by decide +kernel
theorem dX9_lay_45 : decode cX9_lay 45 = .ok (.iload_n 1, 1) := by decide +kernel
theorem dX9_lay_46 : decode cX9_lay 46 = .ok (.aaload, 1) := by decide +kernel
theorem dX9_lay_47 : decode cX9_lay 47 = .ok (.iload_n 2, 1) := by decide +kernel
theorem dX9_lay_48 : decode cX9_lay 48 = .ok (.iload_n 3, 1) := by decide +kernel
theorem dX9_lay_49 : decode cX9_lay 49 = .ok (.invokevirtual 250, 3) := by decide +kernel
theorem dX9_lay_52 : decode cX9_lay 52 = .ok (.iconst 1, 1) := by decide +kernel
theorem dX9_lay_53 : decode cX9_lay 53 = .ok (.ireturn, 1) := by decide +kernel
theorem dX9_read_0 : decode cX9_read 0 = .ok (.iload_n 1, 1) := by decide +kernel
theorem dX9_read_1 : decode cX9_read 1 = .ok (.invokestatic 235, 3) := by decide +kernel
theorem dX9_read_4 : decode cX9_read 4 = .ok (.ifCond .eq 22, 3) := by decide +kernel
theorem dX9_read_7 : decode cX9_read 7 = .ok (.iload_n 2, 1) := by decide +kernel
theorem dX9_read_8 : decode cX9_read 8 = .ok (.invokestatic 238, 3) := by decide +kernel
theorem dX9_read_11 : decode cX9_read 11 = .ok (.ifCond .eq 15, 3) := by decide +kernel
theorem dX9_read_14 : decode cX9_read 14 = .ok (.iload 4, 2) := by decide +kernel
theorem dX9_read_16 : decode cX9_read 16 = .ok (.ifCond .lt 10, 3) := by decide +kernel
theorem dX9_read_19 : decode cX9_read 19 = .ok (.iload 4, 2) := by decide +kernel
theorem dX9_read_21 : decode cX9_read 21 = .ok (.bipush 40, 2) := by decide +kernel
theorem dX9_read_23 : decode cX9_read 23 = .ok (.if_icmp .le 5, 3) := by decide +kernel
theorem dX9_read_26 : decode cX9_read 26 = .ok (.iconst (-1), 1) := by decide +kernel
theorem dX9_read_27 : decode cX9_read 27 = .ok (.ireturn, 1) := by decide +kernel
theorem dX9_read_28 : decode cX9_read 28 = .ok (.aload_n 0, 1) := by decide +kernel
theorem dX9_read_29 : decode cX9_read 29 = .ok (.getfield 53, 3) := by decide +kernel
theorem dX9_read_32 : decode cX9_read 32 = .ok (.iload_n 1, 1) := by decide +kernel
theorem dX9_read_33 : decode cX9_read 33 = .ok (.aaload, 1) := by decide +kernel
theorem dX9_read_34 : decode cX9_read 34 = .ok (.astore 5, 2) := by decide +kernel
theorem dX9_read_36 : decode cX9_read 36 = .ok (.iconst 0, 1) := by decide +kernel
theorem dX9_read_37 : decode cX9_read 37 = .ok (.istore 6, 2) := by decide +kernel
theorem dX9_read_39 : decode cX9_read 39 = .ok (.iconst 0, 1) := by decide +kernel
theorem dX9_read_40 : decode cX9_read 40 = .ok (.istore 7, 2) := by decide +kernel
theorem dX9_read_42 : decode cX9_read 42 = .ok (.iload 7, 2) := by decide +kernel
theorem dX9_read_44 : decode cX9_read 44 = .ok (.iload 4, 2) := by decide +kernel
theorem dX9_read_46 : decode cX9_read 46 = .ok (.if_icmp .ge 65, 3) := by decide +kernel
theorem dX9_read_49 : decode cX9_read 49 = .ok (.iload 6, 2) := by decide +kernel
theorem dX9_read_51 : decode cX9_read 51 = .ok (.ifCond .ne 60, 3) := by decide +kernel
theorem dX9_read_54 : decode cX9_read 54 = .ok (.aload 5, 2) := by decide +kernel
theorem dX9_read_56 : decode cX9_read 56 = .ok (.iload_n 2, 1) := by decide +kernel
theorem dX9_read_57 : decode cX9_read 57 = .ok (.iload_n 3, 1) := by decide +kernel
theorem dX9_read_58 : decode cX9_read 58 = .ok (.iload 7, 2) := by decide +kernel
theorem dX9_read_60 : decode cX9_read 60 = .ok (.iadd, 1) := by decide +kernel
theorem dX9_read_61 : decode cX9_read 61 = .ok (.invokevirtual 247, 3) := by decide +kernel
theorem dX9_read_64 : decode cX9_read 64 = .ok (.istore 6, 2) := by decide +kernel
theorem dX9_read_66 : decode cX9_read 66 = .ok (.iload 6, 2) := by decide +kernel
theorem dX9_read_68 : decode cX9_read 68 = .ok (.ifCond .ne (-26), 3) := by decide +kernel
theorem dX9_read_71 : decode cX9_read 71 = .ok (.aload 5, 2) := by decide +kernel
theorem dX9_read_73 : decode cX9_read 73 = .ok (.getfield 253, 3) := by decide +kernel
theorem dX9_read_76 : decode cX9_read 76 = .ok (.iload_n 3, 1) := by decide +kernel
theorem dX9_read_77 : decode cX9_read 77 = .ok (.iload 7, 2) := by decide +kernel
theorem dX9_read_79 : decode cX9_read 79 = .ok (.iadd, 1) := by decide +kernel
theorem dX9_read_80 : decode cX9_read 80 = .ok (.iaload, 1) := by decide +kernel
theorem dX9_read_81 : decode cX9_read 81 = .ok (.invokestatic 178, 3) := by decide +kernel
theorem dX9_read_84 : decode cX9_read 84 = .ok (.ifCond .eq 15, 3) := by decide +kernel
theorem dX9_read_87 : decode cX9_read 87 = .ok (.aload_n 0, 1) := by decide +kernel
theorem dX9_read_88 : decode cX9_read 88 = .ok (.getfield 32, 3) := by decide +kernel
theorem dX9_read_91 : decode cX9_read 91 = .ok (.invokevirtual 190, 3) := by decide +kernel
theorem dX9_read_94 : decode cX9_read 94 = .ok (.iload 7, 2) := by decide +kernel
theorem dX9_read_96 : decode cX9_read 96 = .ok (.if_icmp .gt 9, 3) := by decide +kernel
theorem dX9_read_99 : decode cX9_read 99 = .ok (.bipush (-20), 2) := by decide +kernel
theorem dX9_read_101 : decode cX9_read 101 = .ok (.iload 7, 2) := by decide +kernel
theorem dX9_read_103 : decode cX9_read 103 = .ok (.isub, 1) := by decide +kernel
theorem dX9_read_104 : decode cX9_read 104 = .ok (.ireturn, 1) := by decide +kernel
theorem dX9_read_105 : decode cX9_read 105 = .ok (.iinc 7 1, 3) := by decide +kernel
theorem dX9_read_108 : decode cX9_read 108 = .ok (.goto (-66), 3) := by decide +kernel
theorem dX9_read_111 : decode cX9_read 111 = .ok (.iconst 0, 1) := by decide +kernel
theorem dX9_read_112 : decode cX9_read 112 = .ok (.istore 8, 2) := by decide +kernel
theorem dX9_read_114 : decode cX9_read 114 = .ok (.iload 8, 2) := by decide +kernel
theorem dX9_read_116 : decode cX9_read 116 = .ok (.iload 7, 2) := by decide +kernel
theorem dX9_read_118 : decode cX9_read 118 = .ok (.if_icmp .ge 33, 3) := by decide +kernel
theorem dX9_read_121 : decode cX9_read 121 = .ok (.aload_n 0, 1) := by decide +kernel
theorem dX9_read_122 : decode cX9_read 122 = .ok (.getfield 32, 3) := by decide +kernel
theorem dX9_read_125 : decode cX9_read 125 = .ok (.aload_n 0, 1) := by decide +kernel
theorem dX9_read_126 : decode cX9_read 126 = .ok (.getfield 32, 3) := by decide +kernel
theorem dX9_read_129 : decode cX9_read 129 = .ok (.getfield 102, 3) := by decide +kernel
theorem dX9_read_132 : decode cX9_read 132 = .ok (.aload 5, 2) := by decide +kernel
theorem dX9_read_134 : decode cX9_read 134 = .ok (.getfield 253, 3) := by decide +kernel
theorem dX9_read_137 : decode cX9_read 137 = .ok (.iload_n 3, 1) := by decide +kernel
theorem dX9_read_138 : decode cX9_read 138 = .ok (.iload 8, 2) := by decide +kernel
theorem dX9_read_140 : decode cX9_read 140 = .ok (.iadd, 1) := by decide +kernel
theorem dX9_read_141 : decode cX9_read 141 = .ok (.iaload, 1) := by decide +kernel
theorem dX9_read_142 : decode cX9_read 142 = .ok (.invokevirtual 193, 3) := by decide +kernel
theorem dX9_read_145 : decode cX9_read 145 = .ok (.iinc 8 1, 3) := by decide +kernel
theorem dX9_read_148 : decode cX9_read 148 = .ok (.goto (-34), 3) := by decide +kernel
theorem dX9_read_151 : decode cX9_read 151 = .ok (.aload_n 0, 1) := by decide +kernel
theorem dX9_read_152 : decode cX9_read 152 = .ok (.iload 6, 2) := by decide +kernel
theorem dX9_read_154 : decode cX9_read 154 = .ok (.putfield 256, 3) := by decide +kernel
theorem dX9_read_157 : decode cX9_read 157 = .ok (.aload_n 0, 1) := by decide +kernel
theorem dX9_read_158 : decode cX9_read 158 = .ok (.iload 7, 2) := by decide +kernel
theorem dX9_read_160 : decode cX9_read 160 = .ok (.invokevirtual 187, 3) := by decide +kernel
theorem dX9_read_163 : decode cX9_read 163 = .ok (.ireturn, 1) := by decide +kernel
theorem dX9_torn_0 : decode cX9_torn 0 = .ok (.aload_n 0, 1) := by decide +kernel
theorem dX9_torn_1 : decode cX9_torn 1 = .ok (.getfield 256, 3) := by decide +kernel
theorem dX9_torn_4 : decode cX9_torn 4 = .ok (.ireturn, 1) := by decide +kernel
theorem dX9_count_0 : decode cX9_count 0 = .ok (.iload_n 1, 1) := by decide +kernel
theorem dX9_count_1 : decode cX9_count 1 = .ok (.tableswitch 106 0 4 #[35, 55, 63, 90, 98], 35) := by decide +kernel
theorem dX9_count_36 : decode cX9_count 36 = .ok (.aload_n 0, 1) := by decide +kernel
theorem dX9_count_37 : decode cX9_count 37 = .ok (.getfield 47, 3) := by decide +kernel
theorem dX9_count_40 : decode cX9_count 40 = .ok (.iconst 0, 1) := by decide +kernel
theorem dX9_count_41 : decode cX9_count 41 = .ok (.baload, 1) := by decide +kernel
theorem dX9_count_42 : decode cX9_count 42 = .ok (.invokestatic 143, 3) := by decide +kernel
theorem dX9_count_45 : decode cX9_count 45 = .ok (.aload_n 0, 1) := by decide +kernel
theorem dX9_count_46 : decode cX9_count 46 = .ok (.getfield 47, 3) := by decide +kernel
theorem dX9_count_49 : decode cX9_count 49 = .ok (.iconst 1, 1) := by decide +kernel
theorem dX9_count_50 : decode cX9_count 50 = .ok (.baload, 1) := by decide +kernel
theorem dX9_count_51 : decode cX9_count 51 = .ok (.invokestatic 143, 3) := by decide +kernel
theorem dX9_count_54 : decode cX9_count 54 = .ok (.iadd, 1) := by decide +kernel
theorem dX9_count_55 : decode cX9_count 55 = .ok (.ireturn, 1) := by decide +kernel
theorem dX9_count_56 : decode cX9_count 56 = .ok (.aload_n 0, 1) := by decide +kernel
theorem dX9_count_57 : decode cX9_count 57 = .ok (.getfield 20, 3) := by decide +kernel
theorem dX9_count_60 : decode cX9_count 60 = .ok (.getfield 58, 3) := by decide +kernel
theorem dX9_count_63 : decode cX9_count 63 = .ok (.ireturn, 1) := by decide +kernel
theorem dX9_count_64 : decode cX9_count 64 = .ok (.aload_n 0, 1) := by decide +kernel
theorem dX9_count_65 : decode cX9_count 65 = .ok (.getfield 53, 3) := by decide +kernel
theorem dX9_count_68 : decode cX9_count 68 = .ok (.iconst 0, 1) := by decide +kernel
theorem dX9_count_69 : decode cX9_count 69 = .ok (.aaload, 1) := by decide +kernel
theorem dX9_count_70 : decode cX9_count 70 = .ok (.getfield 259, 3) := by decide +kernel
theorem dX9_count_73 : decode cX9_count 73 = .ok (.ifCond .eq 15, 3) := by decide +kernel
theorem dX9_count_76 : decode cX9_count 76 = .ok (.aload_n 0, 1) := by decide +kernel
theorem dX9_count_77 : decode cX9_count 77 = .ok (.getfield 53, 3) := by decide +kernel
theorem dX9_count_80 : decode cX9_count 80 = .ok (.iconst 0, 1) := by decide +kernel
theorem dX9_count_81 : decode cX9_count 81 = .ok (.aaload, 1) := by decide +kernel
theorem dX9_count_82 : decode cX9_count 82 = .ok (.getfield 263, 3) := by decide +kernel
theorem dX9_count_85 : decode cX9_count 85 = .ok (.goto 5, 3) := by decide +kernel
theorem dX9_count_88 : decode cX9_count 88 = .ok (.bipush (-4), 2) := by decide +kernel
theorem dX9_count_90 : decode cX9_count 90 = .ok (.ireturn, 1) := by decide +kernel
theorem dX9_count_91 : decode cX9_count 91 = .ok (.aload_n 0, 1) := by decide +kernel
theorem dX9_count_92 : decode cX9_count 92 = .ok (.getfield 32, 3) := by decide +kernel
theorem dX9_count_95 : decode cX9_count 95 = .ok (.invokevirtual 264, 3) := by decide +kernel
theorem dX9_count_98 : decode cX9_count 98 = .ok (.ireturn, 1) := by decide +kernel
theorem dX9_count_99 : decode cX9_count 99 = .ok (.aload_n 0, 1) := by decide +kernel
theorem dX9_count_100 : decode cX9_count 100 = .ok (.getfield 32, 3) := by decide +kernel
theorem dX9_count_103 : decode cX9_count 103 = .ok (.invokevirtual 267, 3) := by decide +kernel
theorem dX9_count_106 : decode cX9_count 106 = .ok (.ireturn, 1) := by decide +kernel
theorem dX9_count_107 : decode cX9_count 107 = .ok (.iconst (-1), 1) := by decide +kernel
theorem dX9_count_108 : decode cX9_count 108 = .ok (.ireturn, 1) := by decide +kernel
theorem dX9_edited_0 : decode cX9_edited 0 = .ok (.aload_n 0, 1) := by decide +kernel
theorem dX9_edited_1 : decode cX9_edited 1 = .ok (.getfield 36, 3) := by decide +kernel
theorem dX9_edited_4 : decode cX9_edited 4 = .ok (.aload_n 0, 1) := by decide +kernel
theorem dX9_edited_5 : decode cX9_edited 5 = .ok (.getfield 32, 3) := by decide +kernel
theorem dX9_edited_8 : decode cX9_edited 8 = .ok (.invokevirtual 270, 3) := by decide +kernel
theorem dX9_edited_11 : decode cX9_edited 11 = .ok (.aload_n 0, 1) := by decide +kernel
theorem dX9_edited_12 : decode cX9_edited 12 = .ok (.getfield 24, 3) := by decide +kernel
theorem dX9_edited_15 : decode cX9_edited 15 = .ok (.invokevirtual 229, 3) := by decide +kernel
theorem dX9_edited_18 : decode cX9_edited 18 = .ok (.iload_n 1, 1) := by decide +kernel
theorem dX9_edited_19 : decode cX9_edited 19 = .ok (.ireturn, 1) := by decide +kernel
theorem dX9_startedAnew_0 : decode cX9_startedAnew 0 = .ok (.aload_n 0, 1) := by decide +kernel
theorem dX9_startedAnew_1 : decode cX9_startedAnew 1 = .ok (.getfield 36, 3) := by decide +kernel
theorem dX9_startedAnew_4 : decode cX9_startedAnew 4 = .ok (.aload_n 0, 1) := by decide +kernel
theorem dX9_startedAnew_5 : decode cX9_startedAnew 5 = .ok (.getfield 32, 3) := by decide +kernel
theorem dX9_startedAnew_8 : decode cX9_startedAnew 8 = .ok (.invokevirtual 273, 3) := by decide +kernel
theorem dX9_startedAnew_11 : decode cX9_startedAnew 11 = .ok (.aload_n 0, 1) := by decide +kernel
theorem dX9_startedAnew_12 : decode cX9_startedAnew 12 = .ok (.getfield 24, 3) := by decide +kernel
theorem dX9_startedAnew_15 : decode cX9_startedAnew 15 = .ok (.invokevirtual 229, 3) := by decide +kernel
theorem dX9_startedAnew_18 : decode cX9_startedAnew 18 = .ok (.aload_n 0, 1) := by decide +kernel
theorem dX9_startedAnew_19 : decode cX9_startedAnew 19 = .ok (.getfield 32, 3) := by decide +kernel
theorem dX9_startedAnew_22 : decode cX9_startedAnew 22 = .ok (.getfield 102, 3) := by decide +kernel
theorem dX9_startedAnew_25 : decode cX9_startedAnew 25 = .ok (.ireturn, 1) := by decide +kernel
theorem dX9_hasSheet_0 : decode cX9_hasSheet 0 = .ok (.iload_n 0, 1) := by decide +kernel
theorem dX9_hasSheet_1 : decode cX9_hasSheet 1 = .ok (.ifCond .lt 12, 3) := by decide +kernel
theorem dX9_hasSheet_4 : decode cX9_hasSheet 4 = .ok (.iload_n 0, 1) := by decide +kernel
theorem dX9_hasSheet_5 : decode cX9_hasSheet 5 = .ok (.iconst 4, 1) := by decide +kernel
theorem dX9_hasSheet_6 : decode cX9_hasSheet 6 = .ok (.if_icmp .ge 7, 3) := by decide +kernel
theorem dX9_hasSheet_9 : decode cX9_hasSheet 9 = .ok (.iconst 1, 1) := by decide +kernel
theorem dX9_hasSheet_10 : decode cX9_hasSheet 10 = .ok (.goto 4, 3) := by decide +kernel
theorem dX9_hasSheet_13 : decode cX9_hasSheet 13 = .ok (.iconst 0, 1) := by decide +kernel
theorem dX9_hasSheet_14 : decode cX9_hasSheet 14 = .ok (.ireturn, 1) := by decide +kernel
theorem dX9_isLane_0 : decode cX9_isLane 0 = .ok (.iload_n 0, 1) := by decide +kernel
theorem dX9_isLane_1 : decode cX9_isLane 1 = .ok (.ifCond .lt 12, 3) := by decide +kernel
theorem dX9_isLane_4 : decode cX9_isLane 4 = .ok (.iload_n 0, 1) := by decide +kernel
theorem dX9_isLane_5 : decode cX9_isLane 5 = .ok (.iconst 3, 1) := by decide +kernel
theorem dX9_isLane_6 : decode cX9_isLane 6 = .ok (.if_icmp .ge 7, 3) := by decide +kernel
theorem dX9_isLane_9 : decode cX9_isLane 9 = .ok (.iconst 1, 1) := by decide +kernel
theorem dX9_isLane_10 : decode cX9_isLane 10 = .ok (.goto 4, 3) := by decide +kernel
theorem dX9_isLane_13 : decode cX9_isLane 13 = .ok (.iconst 0, 1) := by decide +kernel
theorem dX9_isLane_14 : decode cX9_isLane 14 = .ok (.ireturn, 1) := by decide +kernel
theorem dX9_oneIf_0 : decode cX9_oneIf 0 = .ok (.iload_n 0, 1) := by decide +kernel
theorem dX9_oneIf_1 : decode cX9_oneIf 1 = .ok (.ifCond .eq 7, 3) := by decide +kernel
theorem dX9_oneIf_4 : decode cX9_oneIf 4 = .ok (.iconst 1, 1) := by decide +kernel
theorem dX9_oneIf_5 : decode cX9_oneIf 5 = .ok (.goto 4, 3) := by decide +kernel
theorem dX9_oneIf_8 : decode cX9_oneIf 8 = .ok (.iconst 0, 1) := by decide +kernel
theorem dX9_oneIf_9 : decode cX9_oneIf 9 = .ok (.ireturn, 1) := by decide +kernel
