theorem dX0_init_0 : decode cX0_init 0 = .ok (.aload_n 0, 1) := by decide +kernel
theorem dX0_init_1 : decode cX0_init 1 = .ok (.invokespecial 3, 3) := by decide +kernel
theorem dX0_init_4 : decode cX0_init 4 = .ok (.return_, 1) := by decide +kernel
theorem dX0_restart_0 : decode cX0_restart 0 = .ok (.aload_n 0, 1) := by decide +kernel
theorem dX0_restart_1 : decode cX0_restart 1 = .ok (.iconst 0, 1) := by decide +kernel
theorem dX0_restart_2 : decode cX0_restart 2 = .ok (.putfield 9, 3) := by decide +kernel
theorem dX0_restart_5 : decode cX0_restart 5 = .ok (.aload_n 0, 1) := by decide +kernel
theorem dX0_restart_6 : decode cX0_restart 6 = .ok (.iconst 0, 1) := by decide +kernel
theorem dX0_restart_7 : decode cX0_restart 7 = .ok (.putfield 15, 3) := by decide +kernel
theorem dX0_restart_10 : decode cX0_restart 10 = .ok (.aload_n 0, 1) := by decide +kernel
theorem dX0_restart_11 : decode cX0_restart 11 = .ok (.iconst 0, 1) := by decide +kernel
theorem dX0_restart_12 : decode cX0_restart 12 = .ok (.putfield 18, 3) := by decide +kernel
theorem dX0_restart_15 : decode cX0_restart 15 = .ok (.aload_n 0, 1) := by decide +kernel
theorem dX0_restart_16 : decode cX0_restart 16 = .ok (.iconst 0, 1) := by decide +kernel
theorem dX0_restart_17 : decode cX0_restart 17 = .ok (.putfield 21, 3) := by decide +kernel
theorem dX0_restart_20 : decode cX0_restart 20 = .ok (.aload_n 0, 1) := by decide +kernel
theorem dX0_restart_21 : decode cX0_restart 21 = .ok (.bipush (-4), 2) := by decide +kernel
theorem dX0_restart_23 : decode cX0_restart 23 = .ok (.putfield 24, 3) := by decide +kernel
theorem dX0_restart_26 : decode cX0_restart 26 = .ok (.return_, 1) := by decide +kernel
theorem dX0_tokenTaken_0 : decode cX0_tokenTaken 0 = .ok (.aload_n 0, 1) := by decide +kernel
theorem dX0_tokenTaken_1 : decode cX0_tokenTaken 1 = .ok (.dup, 1) := by decide +kernel
theorem dX0_tokenTaken_2 : decode cX0_tokenTaken 2 = .ok (.getfield 21, 3) := by decide +kernel
theorem dX0_tokenTaken_5 : decode cX0_tokenTaken 5 = .ok (.iconst 1, 1) := by decide +kernel
theorem dX0_tokenTaken_6 : decode cX0_tokenTaken 6 = .ok (.iadd, 1) := by decide +kernel
theorem dX0_tokenTaken_7 : decode cX0_tokenTaken 7 = .ok (.putfield 21, 3) := by decide +kernel
theorem dX0_tokenTaken_10 : decode cX0_tokenTaken 10 = .ok (.return_, 1) := by decide +kernel
theorem dX0_lineTaken_0 : decode cX0_lineTaken 0 = .ok (.aload_n 0, 1) := by decide +kernel
theorem dX0_lineTaken_1 : decode cX0_lineTaken 1 = .ok (.dup, 1) := by decide +kernel
theorem dX0_lineTaken_2 : decode cX0_lineTaken 2 = .ok (.getfield 18, 3) := by decide +kernel
theorem dX0_lineTaken_5 : decode cX0_lineTaken 5 = .ok (.iconst 1, 1) := by decide +kernel
theorem dX0_lineTaken_6 : decode cX0_lineTaken 6 = .ok (.iadd, 1) := by decide +kernel
theorem dX0_lineTaken_7 : decode cX0_lineTaken 7 = .ok (.putfield 18, 3) := by decide +kernel
theorem dX0_lineTaken_10 : decode cX0_lineTaken 10 = .ok (.aload_n 0, 1) := by decide +kernel
theorem dX0_lineTaken_11 : decode cX0_lineTaken 11 = .ok (.iconst 0, 1) := by decide +kernel
theorem dX0_lineTaken_12 : decode cX0_lineTaken 12 = .ok (.putfield 21, 3) := by decide +kernel
theorem dX0_lineTaken_15 : decode cX0_lineTaken 15 = .ok (.return_, 1) := by decide +kernel
theorem dX0_stopAt_0 : decode cX0_stopAt 0 = .ok (.aload_n 0, 1) := by decide +kernel
theorem dX0_stopAt_1 : decode cX0_stopAt 1 = .ok (.iload_n 1, 1) := by decide +kernel
theorem dX0_stopAt_2 : decode cX0_stopAt 2 = .ok (.putfield 9, 3) := by decide +kernel
theorem dX0_stopAt_5 : decode cX0_stopAt 5 = .ok (.aload_n 0, 1) := by decide +kernel
theorem dX0_stopAt_6 : decode cX0_stopAt 6 = .ok (.iload_n 2, 1) := by decide +kernel
theorem dX0_stopAt_7 : decode cX0_stopAt 7 = .ok (.putfield 15, 3) := by decide +kernel
theorem dX0_stopAt_10 : decode cX0_stopAt 10 = .ok (.iconst 0, 1) := by decide +kernel
theorem dX0_stopAt_11 : decode cX0_stopAt 11 = .ok (.ireturn, 1) := by decide +kernel
theorem dX0_stopInQuote_0 : decode cX0_stopInQuote 0 = .ok (.aload_n 0, 1) := by decide +kernel
theorem dX0_stopInQuote_1 : decode cX0_stopInQuote 1 = .ok (.iload_n 3, 1) := by decide +kernel
theorem dX0_stopInQuote_2 : decode cX0_stopInQuote 2 = .ok (.putfield 24, 3) := by decide +kernel
theorem dX0_stopInQuote_5 : decode cX0_stopInQuote 5 = .ok (.aload_n 0, 1) := by decide +kernel
theorem dX0_stopInQuote_6 : decode cX0_stopInQuote 6 = .ok (.iload_n 1, 1) := by decide +kernel
theorem dX0_stopInQuote_7 : decode cX0_stopInQuote 7 = .ok (.iload_n 2, 1) := by decide +kernel
theorem dX0_stopInQuote_8 : decode cX0_stopInQuote 8 = .ok (.invokevirtual 27, 3) := by decide +kernel
theorem dX0_stopInQuote_11 : decode cX0_stopInQuote 11 = .ok (.ireturn, 1) := by decide +kernel
theorem dX0_part_0 : decode cX0_part 0 = .ok (.aload_n 0, 1) := by decide +kernel
theorem dX0_part_1 : decode cX0_part 1 = .ok (.getfield 9, 3) := by decide +kernel
theorem dX0_part_4 : decode cX0_part 4 = .ok (.ifCond .eq 12, 3) := by decide +kernel
theorem dX0_part_7 : decode cX0_part 7 = .ok (.aload_n 0, 1) := by decide +kernel
theorem dX0_part_8 : decode cX0_part 8 = .ok (.getfield 9, 3) := by decide +kernel
theorem dX0_part_11 : decode cX0_part 11 = .ok (.bipush 6, 2) := by decide +kernel
theorem dX0_part_13 : decode cX0_part 13 = .ok (.if_icmp .ne 6, 3) := by decide +kernel
theorem dX0_part_16 : decode cX0_part 16 = .ok (.bipush (-4), 2) := by decide +kernel
theorem dX0_part_18 : decode cX0_part 18 = .ok (.ireturn, 1) := by decide +kernel
theorem dX0_part_19 : decode cX0_part 19 = .ok (.iload_n 1, 1) := by decide +kernel
theorem dX0_part_20 : decode cX0_part 20 = .ok (.lookupswitch 38 #[(0, 28), (1, 33)], 28) := by decide +kernel
theorem dX0_part_48 : decode cX0_part 48 = .ok (.aload_n 0, 1) := by decide +kernel
theorem dX0_part_49 : decode cX0_part 49 = .ok (.getfield 18, 3) := by decide +kernel
theorem dX0_part_52 : decode cX0_part 52 = .ok (.ireturn, 1) := by decide +kernel
theorem dX0_part_53 : decode cX0_part 53 = .ok (.aload_n 0, 1) := by decide +kernel
theorem dX0_part_54 : decode cX0_part 54 = .ok (.getfield 21, 3) := by decide +kernel
theorem dX0_part_57 : decode cX0_part 57 = .ok (.ireturn, 1) := by decide +kernel
theorem dX0_part_58 : decode cX0_part 58 = .ok (.aload_n 0, 1) := by decide +kernel
theorem dX0_part_59 : decode cX0_part 59 = .ok (.getfield 24, 3) := by decide +kernel
theorem dX0_part_62 : decode cX0_part 62 = .ok (.ireturn, 1) := by decide +kernel
theorem dX1_init_0 : decode cX1_init 0 = .ok (.aload_n 0, 1) := by decide +kernel
theorem dX1_init_1 : decode cX1_init 1 = .ok (.invokespecial 3, 3) := by decide +kernel
theorem dX1_init_4 : decode cX1_init 4 = .ok (.aload_n 0, 1) := by decide +kernel
theorem dX1_init_5 : decode cX1_init 5 = .ok (.new 9, 3) := by decide +kernel
theorem dX1_init_8 : decode cX1_init 8 = .ok (.dup, 1) := by decide +kernel
theorem dX1_init_9 : decode cX1_init 9 = .ok (.invokespecial 11, 3) := by decide +kernel
theorem dX1_init_12 : decode cX1_init 12 = .ok (.putfield 12, 3) := by decide +kernel
theorem dX1_init_15 : decode cX1_init 15 = .ok (.aload_n 0, 1) := by decide +kernel
theorem dX1_init_16 : decode cX1_init 16 = .ok (.bipush 60, 2) := by decide +kernel
theorem dX1_init_18 : decode cX1_init 18 = .ok (.newarray .int, 2) := by decide +kernel
theorem dX1_init_20 : decode cX1_init 20 = .ok (.putfield 18, 3) := by decide +kernel
theorem dX1_init_23 : decode cX1_init 23 = .ok (.aload_n 0, 1) := by decide +kernel
theorem dX1_init_24 : decode cX1_init 24 = .ok (.bipush 60, 2) := by decide +kernel
theorem dX1_init_26 : decode cX1_init 26 = .ok (.newarray .int, 2) := by decide +kernel
theorem dX1_init_28 : decode cX1_init 28 = .ok (.putfield 22, 3) := by decide +kernel
theorem dX1_init_31 : decode cX1_init 31 = .ok (.aload_n 0, 1) := by decide +kernel
theorem dX1_init_32 : decode cX1_init 32 = .ok (.bipush 60, 2) := by decide +kernel
theorem dX1_init_34 : decode cX1_init 34 = .ok (.newarray .int, 2) := by decide +kernel
theorem dX1_init_36 : decode cX1_init 36 = .ok (.putfield 25, 3) := by decide +kernel
theorem dX1_init_39 : decode cX1_init 39 = .ok (.aload_n 0, 1) := by decide +kernel
theorem dX1_init_40 : decode cX1_init 40 = .ok (.bipush 61, 2) := by decide +kernel
theorem dX1_init_42 : decode cX1_init 42 = .ok (.newarray .int, 2) := by decide +kernel
theorem dX1_init_44 : decode cX1_init 44 = .ok (.putfield 28, 3) := by decide +kernel
theorem dX1_init_47 : decode cX1_init 47 = .ok (.aload_n 0, 1) := by decide +kernel
theorem dX1_init_48 : decode cX1_init 48 = .ok (.bipush 61, 2) := by decide +kernel
theorem dX1_init_50 : decode cX1_init 50 = .ok (.newarray .int, 2) := by decide +kernel
theorem dX1_init_52 : decode cX1_init 52 = .ok (.putfield 31, 3) := by decide +kernel
theorem dX1_init_55 : decode cX1_init 55 = .ok (.aload_n 0, 1) := by decide +kernel
theorem dX1_init_56 : decode cX1_init 56 = .ok (.bipush 60, 2) := by decide +kernel
theorem dX1_init_58 : decode cX1_init 58 = .ok (.newarray .int, 2) := by decide +kernel
theorem dX1_init_60 : decode cX1_init 60 = .ok (.putfield 34, 3) := by decide +kernel
theorem dX1_init_63 : decode cX1_init 63 = .ok (.aload_n 0, 1) := by decide +kernel
theorem dX1_init_64 : decode cX1_init 64 = .ok (.bipush 60, 2) := by decide +kernel
theorem dX1_init_66 : decode cX1_init 66 = .ok (.newarray .boolean, 2) := by decide +kernel
theorem dX1_init_68 : decode cX1_init 68 = .ok (.putfield 37, 3) := by decide +kernel
theorem dX1_init_71 : decode cX1_init 71 = .ok (.return_, 1) := by decide +kernel
theorem dX1_survey_0 : decode cX1_survey 0 = .ok (.iconst 0, 1) := by decide +kernel
theorem dX1_survey_1 : decode cX1_survey 1 = .ok (.istore_n 1, 1) := by decide +kernel
theorem dX1_survey_2 : decode cX1_survey 2 = .ok (.iload_n 1, 1) := by decide +kernel
theorem dX1_survey_3 : decode cX1_survey 3 = .ok (.aload_n 0, 1) := by decide +kernel
theorem dX1_survey_4 : decode cX1_survey 4 = .ok (.getfield 12, 3) := by decide +kernel
theorem dX1_survey_7 : decode cX1_survey 7 = .ok (.getfield 41, 3) := by decide +kernel
theorem dX1_survey_10 : decode cX1_survey 10 = .ok (.if_icmp .ge 25, 3) := by decide +kernel
theorem dX1_survey_13 : decode cX1_survey 13 = .ok (.aload_n 0, 1) := by decide +kernel
theorem dX1_survey_14 : decode cX1_survey 14 = .ok (.getfield 18, 3) := by decide +kernel
theorem dX1_survey_17 : decode cX1_survey 17 = .ok (.iload_n 1, 1) := by decide +kernel
theorem dX1_survey_18 : decode cX1_survey 18 = .ok (.bipush (-4), 2) := by decide +kernel
theorem dX1_survey_20 : decode cX1_survey 20 = .ok (.iastore, 1) := by decide +kernel
theorem dX1_survey_21 : decode cX1_survey 21 = .ok (.aload_n 0, 1) := by decide +kernel
theorem dX1_survey_22 : decode cX1_survey 22 = .ok (.getfield 22, 3) := by decide +kernel
theorem dX1_survey_25 : decode cX1_survey 25 = .ok (.iload_n 1, 1) := by decide +kernel
theorem dX1_survey_26 : decode cX1_survey 26 = .ok (.bipush (-4), 2) := by decide +kernel
theorem dX1_survey_28 : decode cX1_survey 28 = .ok (.iastore, 1) := by decide +kernel
theorem dX1_survey_29 : decode cX1_survey 29 = .ok (.iinc 1 1, 3) := by decide +kernel
theorem dX1_survey_32 : decode cX1_survey 32 = .ok (.goto (-30), 3) := by decide +kernel
theorem dX1_survey_35 : decode cX1_survey 35 = .ok (.aload_n 0, 1) := by decide +kernel
theorem dX1_survey_36 : decode cX1_survey 36 = .ok (.iconst 3, 1) := by decide +kernel
theorem dX1_survey_37 : decode cX1_survey 37 = .ok (.aload_n 0, 1) := by decide +kernel
theorem dX1_survey_38 : decode cX1_survey 38 = .ok (.getfield 18, 3) := by decide +kernel
theorem dX1_survey_41 : decode cX1_survey 41 = .ok (.invokevirtual 45, 3) := by decide +kernel
theorem dX1_survey_44 : decode cX1_survey 44 = .ok (.iconst 0, 1) := by decide +kernel
theorem dX1_survey_45 : decode cX1_survey 45 = .ok (.istore_n 1, 1) := by decide +kernel
theorem dX1_survey_46 : decode cX1_survey 46 = .ok (.iload_n 1, 1) := by decide +kernel
theorem dX1_survey_47 : decode cX1_survey 47 = .ok (.iconst 3, 1) := by decide +kernel
theorem dX1_survey_48 : decode cX1_survey 48 = .ok (.if_icmp .ge 18, 3) := by decide +kernel
theorem dX1_survey_51 : decode cX1_survey 51 = .ok (.aload_n 0, 1) := by decide +kernel
theorem dX1_survey_52 : decode cX1_survey 52 = .ok (.iload_n 1, 1) := by decide +kernel
theorem dX1_survey_53 : decode cX1_survey 53 = .ok (.aload_n 0, 1) := by decide +kernel
theorem dX1_survey_54 : decode cX1_survey 54 = .ok (.getfield 22, 3) := by decide +kernel
theorem dX1_survey_57 : decode cX1_survey 57 = .ok (.invokevirtual 45, 3) := by decide +kernel
theorem dX1_survey_60 : decode cX1_survey 60 = .ok (.iinc 1 1, 3) := by decide +kernel
theorem dX1_survey_63 : decode cX1_survey 63 = .ok (.goto (-17), 3) := by decide +kernel
theorem dX1_survey_66 : decode cX1_survey 66 = .ok (.aload_n 0, 1) := by decide +kernel
theorem dX1_survey_67 : decode cX1_survey 67 = .ok (.invokevirtual 49, 3) := by decide +kernel
theorem dX1_survey_70 : decode cX1_survey 70 = .ok (.aload_n 0, 1) := by decide +kernel
theorem dX1_survey_71 : decode cX1_survey 71 = .ok (.invokevirtual 52, 3) := by decide +kernel
theorem dX1_survey_74 : decode cX1_survey 74 = .ok (.return_, 1) := by decide +kernel
theorem dX1_pairUp_0 : decode cX1_pairUp 0 = .ok (.iconst 0, 1) := by decide +kernel
theorem dX1_pairUp_1 : decode cX1_pairUp 1 = .ok (.istore_n 3, 1) := by decide +kernel
theorem dX1_pairUp_2 : decode cX1_pairUp 2 = .ok (.iconst 0, 1) := by decide +kernel
theorem dX1_pairUp_3 : decode cX1_pairUp 3 = .ok (.istore 4, 2) := by decide +kernel
theorem dX1_pairUp_5 : decode cX1_pairUp 5 = .ok (.iload 4, 2) := by decide +kernel
theorem dX1_pairUp_7 : decode cX1_pairUp 7 = .ok (.aload_n 0, 1) := by decide +kernel
theorem dX1_pairUp_8 : decode cX1_pairUp 8 = .ok (.getfield 12, 3) := by decide +kernel
theorem dX1_pairUp_11 : decode cX1_pairUp 11 = .ok (.getfield 41, 3) := by decide +kernel
theorem dX1_pairUp_14 : decode cX1_pairUp 14 = .ok (.if_icmp .ge 81, 3) := by decide +kernel
theorem dX1_pairUp_17 : decode cX1_pairUp 17 = .ok (.aload_n 0, 1) := by decide +kernel
theorem dX1_pairUp_18 : decode cX1_pairUp 18 = .ok (.getfield 12, 3) := by decide +kernel
theorem dX1_pairUp_21 : decode cX1_pairUp 21 = .ok (.iload 4, 2) := by decide +kernel
theorem dX1_pairUp_23 : decode cX1_pairUp 23 = .ok (.invokevirtual 55, 3) := by decide +kernel
theorem dX1_pairUp_26 : decode cX1_pairUp 26 = .ok (.istore 5, 2) := by decide +kernel
theorem dX1_pairUp_28 : decode cX1_pairUp 28 = .ok (.iload 5, 2) := by decide +kernel
theorem dX1_pairUp_30 : decode cX1_pairUp 30 = .ok (.iload_n 1, 1) := by decide +kernel
theorem dX1_pairUp_31 : decode cX1_pairUp 31 = .ok (.invokestatic 59, 3) := by decide +kernel
theorem dX1_pairUp_34 : decode cX1_pairUp 34 = .ok (.ifCond .ne 6, 3) := by decide +kernel
theorem dX1_pairUp_37 : decode cX1_pairUp 37 = .ok (.goto 52, 3) := by decide +kernel
theorem dX1_pairUp_40 : decode cX1_pairUp 40 = .ok (.iload 5, 2) := by decide +kernel
theorem dX1_pairUp_42 : decode cX1_pairUp 42 = .ok (.invokestatic 63, 3) := by decide +kernel
theorem dX1_pairUp_45 : decode cX1_pairUp 45 = .ok (.ifCond .eq 17, 3) := by decide +kernel
theorem dX1_pairUp_48 : decode cX1_pairUp 48 = .ok (.aload_n 0, 1) := by decide +kernel
theorem dX1_pairUp_49 : decode cX1_pairUp 49 = .ok (.getfield 25, 3) := by decide +kernel
theorem dX1_pairUp_52 : decode cX1_pairUp 52 = .ok (.iload_n 3, 1) := by decide +kernel
theorem dX1_pairUp_53 : decode cX1_pairUp 53 = .ok (.iload 4, 2) := by decide +kernel
theorem dX1_pairUp_55 : decode cX1_pairUp 55 = .ok (.iastore, 1) := by decide +kernel
theorem dX1_pairUp_56 : decode cX1_pairUp 56 = .ok (.iinc 3 1, 3) := by decide +kernel
theorem dX1_pairUp_59 : decode cX1_pairUp 59 = .ok (.goto 30, 3) := by decide +kernel
theorem dX1_pairUp_62 : decode cX1_pairUp 62 = .ok (.iload_n 3, 1) := by decide +kernel
theorem dX1_pairUp_63 : decode cX1_pairUp 63 = .ok (.ifCond .le 26, 3) := by decide +kernel
theorem dX1_pairUp_66 : decode cX1_pairUp 66 = .ok (.iinc 3 (-1), 3) := by decide +kernel
theorem dX1_pairUp_69 : decode cX1_pairUp 69 = .ok (.aload_n 2, 1) := by decide +kernel
theorem dX1_pairUp_70 : decode cX1_pairUp 70 = .ok (.iload 4, 2) := by decide +kernel
theorem dX1_pairUp_72 : decode cX1_pairUp 72 = .ok (.aload_n 0, 1) := by decide +kernel
theorem dX1_pairUp_73 : decode cX1_pairUp 73 = .ok (.getfield 25, 3) := by decide +kernel
theorem dX1_pairUp_76 : decode cX1_pairUp 76 = .ok (.iload_n 3, 1) := by decide +kernel
theorem dX1_pairUp_77 : decode cX1_pairUp 77 = .ok (.iaload, 1) := by decide +kernel
theorem dX1_pairUp_78 : decode cX1_pairUp 78 = .ok (.iastore, 1) := by decide +kernel
theorem dX1_pairUp_79 : decode cX1_pairUp 79 = .ok (.aload_n 2, 1) := by decide +kernel
theorem dX1_pairUp_80 : decode cX1_pairUp 80 = .ok (.aload_n 0, 1) := by decide +kernel
theorem dX1_pairUp_81 : decode cX1_pairUp 81 = .ok (.getfield 25, 3) := by decide +kernel
theorem dX1_pairUp_84 : decode cX1_pairUp 84 = .ok (.iload_n 3, 1) := by decide +kernel
theorem dX1_pairUp_85 : decode cX1_pairUp 85 = .ok (.iaload, 1) := by decide +kernel
theorem dX1_pairUp_86 : decode cX1_pairUp 86 = .ok (.iload 4, 2) := by decide +kernel
theorem dX1_pairUp_88 : decode cX1_pairUp 88 = .ok (.iastore, 1) := by decide +kernel
theorem dX1_pairUp_89 : decode cX1_pairUp 89 = .ok (.iinc 4 1, 3) := by decide +kernel
theorem dX1_pairUp_92 : decode cX1_pairUp 92 = .ok (.goto (-87), 3) := by decide +kernel
theorem dX1_pairUp_95 : decode cX1_pairUp 95 = .ok (.return_, 1) := by decide +kernel
theorem dX1_isOf_0 : decode cX1_isOf 0 = .ok (.iload_n 0, 1) := by decide +kernel
theorem dX1_isOf_1 : decode cX1_isOf 1 = .ok (.invokestatic 69, 3) := by decide +kernel
theorem dX1_isOf_4 : decode cX1_isOf 4 = .ok (.ifCond .eq 20, 3) := by decide +kernel
theorem dX1_isOf_7 : decode cX1_isOf 7 = .ok (.iload_n 1, 1) := by decide +kernel
theorem dX1_isOf_8 : decode cX1_isOf 8 = .ok (.iconst 3, 1) := by decide +kernel
theorem dX1_isOf_9 : decode cX1_isOf 9 = .ok (.if_icmp .eq 11, 3) := by decide +kernel
theorem dX1_isOf_12 : decode cX1_isOf 12 = .ok (.iload_n 0, 1) := by decide +kernel
theorem dX1_isOf_13 : decode cX1_isOf 13 = .ok (.invokestatic 72, 3) := by decide +kernel
theorem dX1_isOf_16 : decode cX1_isOf 16 = .ok (.iload_n 1, 1) := by decide +kernel
theorem dX1_isOf_17 : decode cX1_isOf 17 = .ok (.if_icmp .ne 7, 3) := by decide +kernel
theorem dX1_isOf_20 : decode cX1_isOf 20 = .ok (.iconst 1, 1) := by decide +kernel
theorem dX1_isOf_21 : decode cX1_isOf 21 = .ok (.goto 4, 3) := by decide +kernel
theorem dX1_isOf_24 : decode cX1_isOf 24 = .ok (.iconst 0, 1) := by decide +kernel
theorem dX1_isOf_25 : decode cX1_isOf 25 = .ok (.ireturn, 1) := by decide +kernel
theorem dX1_countAlong_0 : decode cX1_countAlong 0 = .ok (.iconst 0, 1) := by decide +kernel
theorem dX1_countAlong_1 : decode cX1_countAlong 1 = .ok (.istore_n 1, 1) := by decide +kernel
theorem dX1_countAlong_2 : decode cX1_countAlong 2 = .ok (.iload_n 1, 1) := by decide +kernel
theorem dX1_countAlong_3 : decode cX1_countAlong 3 = .ok (.aload_n 0, 1) := by decide +kernel
theorem dX1_countAlong_4 : decode cX1_countAlong 4 = .ok (.getfield 12, 3) := by decide +kernel
theorem dX1_countAlong_7 : decode cX1_countAlong 7 = .ok (.getfield 41, 3) := by decide +kernel
theorem dX1_countAlong_10 : decode cX1_countAlong 10 = .ok (.if_icmp .ge 77, 3) := by decide +kernel
theorem dX1_countAlong_13 : decode cX1_countAlong 13 = .ok (.aload_n 0, 1) := by decide +kernel
theorem dX1_countAlong_14 : decode cX1_countAlong 14 = .ok (.getfield 12, 3) := by decide +kernel
theorem dX1_countAlong_17 : decode cX1_countAlong 17 = .ok (.iload_n 1, 1) := by decide +kernel
theorem dX1_countAlong_18 : decode cX1_countAlong 18 = .ok (.invokevirtual 55, 3) := by decide +kernel
theorem dX1_countAlong_21 : decode cX1_countAlong 21 = .ok (.istore_n 2, 1) := by decide +kernel
theorem dX1_countAlong_22 : decode cX1_countAlong 22 = .ok (.aload_n 0, 1) := by decide +kernel
theorem dX1_countAlong_23 : decode cX1_countAlong 23 = .ok (.getfield 28, 3) := by decide +kernel
theorem dX1_countAlong_26 : decode cX1_countAlong 26 = .ok (.iload_n 1, 1) := by decide +kernel
theorem dX1_countAlong_27 : decode cX1_countAlong 27 = .ok (.iconst 1, 1) := by decide +kernel
theorem dX1_countAlong_28 : decode cX1_countAlong 28 = .ok (.iadd, 1) := by decide +kernel
theorem dX1_countAlong_29 : decode cX1_countAlong 29 = .ok (.aload_n 0, 1) := by decide +kernel
theorem dX1_countAlong_30 : decode cX1_countAlong 30 = .ok (.getfield 28, 3) := by decide +kernel
theorem dX1_countAlong_33 : decode cX1_countAlong 33 = .ok (.iload_n 1, 1) := by decide +kernel
theorem dX1_countAlong_34 : decode cX1_countAlong 34 = .ok (.iaload, 1) := by decide +kernel
theorem dX1_countAlong_35 : decode cX1_countAlong 35 = .ok (.iload_n 2, 1) := by decide +kernel
theorem dX1_countAlong_36 : decode cX1_countAlong 36 = .ok (.invokestatic 63, 3) := by decide +kernel
theorem dX1_countAlong_39 : decode cX1_countAlong 39 = .ok (.invokestatic 75, 3) := by decide +kernel
theorem dX1_countAlong_42 : decode cX1_countAlong 42 = .ok (.iadd, 1) := by decide +kernel
theorem dX1_countAlong_43 : decode cX1_countAlong 43 = .ok (.iload_n 2, 1) := by decide +kernel
theorem dX1_countAlong_44 : decode cX1_countAlong 44 = .ok (.invokestatic 79, 3) := by decide +kernel
theorem dX1_countAlong_47 : decode cX1_countAlong 47 = .ok (.invokestatic 75, 3) := by decide +kernel
theorem dX1_countAlong_50 : decode cX1_countAlong 50 = .ok (.isub, 1) := by decide +kernel
theorem dX1_countAlong_51 : decode cX1_countAlong 51 = .ok (.iastore, 1) := by decide +kernel
theorem dX1_countAlong_52 : decode cX1_countAlong 52 = .ok (.aload_n 0, 1) := by decide +kernel
theorem dX1_countAlong_53 : decode cX1_countAlong 53 = .ok (.getfield 31, 3) := by decide +kernel
theorem dX1_countAlong_56 : decode cX1_countAlong 56 = .ok (.iload_n 1, 1) := by decide +kernel
theorem dX1_countAlong_57 : decode cX1_countAlong 57 = .ok (.iconst 1, 1) := by decide +kernel
theorem dX1_countAlong_58 : decode cX1_countAlong 58 = .ok (.iadd, 1) := by decide +kernel
theorem dX1_countAlong_59 : decode cX1_countAlong 59 = .ok (.aload_n 0, 1) := by decide +kernel
theorem dX1_countAlong_60 : decode cX1_countAlong 60 = .ok (.getfield 31, 3) := by decide +kernel
theorem dX1_countAlong_63 : decode cX1_countAlong 63 = .ok (.iload_n 1, 1) := by decide +kernel
theorem dX1_countAlong_64 : decode cX1_countAlong 64 = .ok (.iaload, 1) := by decide +kernel
theorem dX1_countAlong_65 : decode cX1_countAlong 65 = .ok (.iload_n 2, 1) := by decide +kernel
theorem dX1_countAlong_66 : decode cX1_countAlong 66 = .ok (.bipush 47, 2) := by decide +kernel
theorem dX1_countAlong_68 : decode cX1_countAlong 68 = .ok (.if_icmp .ne 7, 3) := by decide +kernel
theorem dX1_countAlong_71 : decode cX1_countAlong 71 = .ok (.iconst 1, 1) := by decide +kernel
theorem dX1_countAlong_72 : decode cX1_countAlong 72 = .ok (.goto 4, 3) := by decide +kernel
theorem dX1_countAlong_75 : decode cX1_countAlong 75 = .ok (.iconst 0, 1) := by decide +kernel
theorem dX1_countAlong_76 : decode cX1_countAlong 76 = .ok (.invokestatic 75, 3) := by decide +kernel
theorem dX1_countAlong_79 : decode cX1_countAlong 79 = .ok (.iadd, 1) := by decide +kernel
theorem dX1_countAlong_80 : decode cX1_countAlong 80 = .ok (.iastore, 1) := by decide +kernel
theorem dX1_countAlong_81 : decode cX1_countAlong 81 = .ok (.iinc 1 1, 3) := by decide +kernel
theorem dX1_countAlong_84 : decode cX1_countAlong 84 = .ok (.goto (-82), 3) := by decide +kernel
theorem dX1_countAlong_87 : decode cX1_countAlong 87 = .ok (.return_, 1) := by decide +kernel
theorem dX1_nest_0 : decode cX1_nest 0 = .ok (.iconst 0, 1) := by decide +kernel
theorem dX1_nest_1 : decode cX1_nest 1 = .ok (.istore_n 1, 1) := by decide +kernel
theorem dX1_nest_2 : decode cX1_nest 2 = .ok (.iconst 0, 1) := by decide +kernel
theorem dX1_nest_3 : decode cX1_nest 3 = .ok (.istore_n 2, 1) := by decide +kernel
theorem dX1_nest_4 : decode cX1_nest 4 = .ok (.iconst 0, 1) := by decide +kernel
theorem dX1_nest_5 : decode cX1_nest 5 = .ok (.istore_n 3, 1) := by decide +kernel
theorem dX1_nest_6 : decode cX1_nest 6 = .ok (.iload_n 3, 1) := by decide +kernel
theorem dX1_nest_7 : decode cX1_nest 7 = .ok (.aload_n 0, 1) := by decide +kernel
theorem dX1_nest_8 : decode cX1_nest 8 = .ok (.getfield 12, 3) := by decide +kernel
theorem dX1_nest_11 : decode cX1_nest 11 = .ok (.getfield 41, 3) := by decide +kernel
theorem dX1_nest_14 : decode cX1_nest 14 = .ok (.if_icmp .ge 85, 3) := by decide +kernel
theorem dX1_nest_17 : decode cX1_nest 17 = .ok (.aload_n 0, 1) := by decide +kernel
theorem dX1_nest_18 : decode cX1_nest 18 = .ok (.getfield 18, 3) := by decide +kernel
theorem dX1_nest_21 : decode cX1_nest 21 = .ok (.iload_n 3, 1) := by decide +kernel
theorem dX1_nest_22 : decode cX1_nest 22 = .ok (.iaload, 1) := by decide +kernel
theorem dX1_nest_23 : decode cX1_nest 23 = .ok (.istore 4, 2) := by decide +kernel
theorem dX1_nest_25 : decode cX1_nest 25 = .ok (.iload 4, 2) := by decide +kernel
theorem dX1_nest_27 : decode cX1_nest 27 = .ok (.ifCond .lt 24, 3) := by decide +kernel
theorem dX1_nest_30 : decode cX1_nest 30 = .ok (.iload 4, 2) := by decide +kernel
theorem dX1_nest_32 : decode cX1_nest 32 = .ok (.iload_n 3, 1) := by decide +kernel
theorem dX1_nest_33 : decode cX1_nest 33 = .ok (.if_icmp .ge 18, 3) := by decide +kernel
theorem dX1_nest_36 : decode cX1_nest 36 = .ok (.iinc 1 (-1), 3) := by decide +kernel
theorem dX1_nest_39 : decode cX1_nest 39 = .ok (.iload_n 2, 1) := by decide +kernel
theorem dX1_nest_40 : decode cX1_nest 40 = .ok (.aload_n 0, 1) := by decide +kernel
theorem dX1_nest_41 : decode cX1_nest 41 = .ok (.iload 4, 2) := by decide +kernel
theorem dX1_nest_43 : decode cX1_nest 43 = .ok (.invokevirtual 82, 3) := by decide +kernel
theorem dX1_nest_46 : decode cX1_nest 46 = .ok (.invokestatic 75, 3) := by decide +kernel
theorem dX1_nest_49 : decode cX1_nest 49 = .ok (.isub, 1) := by decide +kernel
theorem dX1_nest_50 : decode cX1_nest 50 = .ok (.istore_n 2, 1) := by decide +kernel
theorem dX1_nest_51 : decode cX1_nest 51 = .ok (.aload_n 0, 1) := by decide +kernel
theorem dX1_nest_52 : decode cX1_nest 52 = .ok (.getfield 34, 3) := by decide +kernel
theorem dX1_nest_55 : decode cX1_nest 55 = .ok (.iload_n 3, 1) := by decide +kernel
theorem dX1_nest_56 : decode cX1_nest 56 = .ok (.iload_n 1, 1) := by decide +kernel
theorem dX1_nest_57 : decode cX1_nest 57 = .ok (.iastore, 1) := by decide +kernel
theorem dX1_nest_58 : decode cX1_nest 58 = .ok (.aload_n 0, 1) := by decide +kernel
theorem dX1_nest_59 : decode cX1_nest 59 = .ok (.getfield 37, 3) := by decide +kernel
theorem dX1_nest_62 : decode cX1_nest 62 = .ok (.iload_n 3, 1) := by decide +kernel
theorem dX1_nest_63 : decode cX1_nest 63 = .ok (.iload_n 2, 1) := by decide +kernel
theorem dX1_nest_64 : decode cX1_nest 64 = .ok (.ifCond .le 7, 3) := by decide +kernel
theorem dX1_nest_67 : decode cX1_nest 67 = .ok (.iconst 1, 1) := by decide +kernel
theorem dX1_nest_68 : decode cX1_nest 68 = .ok (.goto 4, 3) := by decide +kernel
theorem dX1_nest_71 : decode cX1_nest 71 = .ok (.iconst 0, 1) := by decide +kernel
theorem dX1_nest_72 : decode cX1_nest 72 = .ok (.bastore, 1) := by decide +kernel
theorem dX1_nest_73 : decode cX1_nest 73 = .ok (.iload 4, 2) := by decide +kernel
theorem dX1_nest_75 : decode cX1_nest 75 = .ok (.iload_n 3, 1) := by decide +kernel
theorem dX1_nest_76 : decode cX1_nest 76 = .ok (.if_icmp .le 17, 3) := by decide +kernel
theorem dX1_nest_79 : decode cX1_nest 79 = .ok (.iinc 1 1, 3) := by decide +kernel
theorem dX1_nest_82 : decode cX1_nest 82 = .ok (.iload_n 2, 1) := by decide +kernel
theorem dX1_nest_83 : decode cX1_nest 83 = .ok (.aload_n 0, 1) := by decide +kernel
theorem dX1_nest_84 : decode cX1_nest 84 = .ok (.iload_n 3, 1) := by decide +kernel
theorem dX1_nest_85 : decode cX1_nest 85 = .ok (.invokevirtual 82, 3) := by decide +kernel
theorem dX1_nest_88 : decode cX1_nest 88 = .ok (.invokestatic 75, 3) := by decide +kernel
theorem dX1_nest_91 : decode cX1_nest 91 = .ok (.iadd, 1) := by decide +kernel
theorem dX1_nest_92 : decode cX1_nest 92 = .ok (.istore_n 2, 1) := by decide +kernel
theorem dX1_nest_93 : decode cX1_nest 93 = .ok (.iinc 3 1, 3) := by decide +kernel
theorem dX1_nest_96 : decode cX1_nest 96 = .ok (.goto (-90), 3) := by decide +kernel
theorem dX1_nest_99 : decode cX1_nest 99 = .ok (.return_, 1) := by decide +kernel
theorem dX1_isFolded_0 : decode cX1_isFolded 0 = .ok (.aload_n 0, 1) := by decide +kernel
theorem dX1_isFolded_1 : decode cX1_isFolded 1 = .ok (.getfield 18, 3) := by decide +kernel
theorem dX1_isFolded_4 : decode cX1_isFolded 4 = .ok (.iload_n 1, 1) := by decide +kernel
theorem dX1_isFolded_5 : decode cX1_isFolded 5 = .ok (.iaload, 1) := by decide +kernel
theorem dX1_isFolded_6 : decode cX1_isFolded 6 = .ok (.istore_n 2, 1) := by decide +kernel
theorem dX1_isFolded_7 : decode cX1_isFolded 7 = .ok (.iload_n 2, 1) := by decide +kernel
theorem dX1_isFolded_8 : decode cX1_isFolded 8 = .ok (.iload_n 1, 1) := by decide +kernel
theorem dX1_isFolded_9 : decode cX1_isFolded 9 = .ok (.if_icmp .le 33, 3) := by decide +kernel
theorem dX1_isFolded_12 : decode cX1_isFolded 12 = .ok (.aload_n 0, 1) := by decide +kernel
theorem dX1_isFolded_13 : decode cX1_isFolded 13 = .ok (.getfield 12, 3) := by decide +kernel
theorem dX1_isFolded_16 : decode cX1_isFolded 16 = .ok (.iload_n 1, 1) := by decide +kernel
theorem dX1_isFolded_17 : decode cX1_isFolded 17 = .ok (.invokevirtual 85, 3) := by decide +kernel
theorem dX1_isFolded_20 : decode cX1_isFolded 20 = .ok (.ifCond .eq 22, 3) := by decide +kernel
theorem dX1_isFolded_23 : decode cX1_isFolded 23 = .ok (.aload_n 0, 1) := by decide +kernel
theorem dX1_isFolded_24 : decode cX1_isFolded 24 = .ok (.getfield 31, 3) := by decide +kernel
theorem dX1_isFolded_27 : decode cX1_isFolded 27 = .ok (.iload_n 2, 1) := by decide +kernel
theorem dX1_isFolded_28 : decode cX1_isFolded 28 = .ok (.iaload, 1) := by decide +kernel
theorem dX1_isFolded_29 : decode cX1_isFolded 29 = .ok (.aload_n 0, 1) := by decide +kernel
theorem dX1_isFolded_30 : decode cX1_isFolded 30 = .ok (.getfield 31, 3) := by decide +kernel
theorem dX1_isFolded_33 : decode cX1_isFolded 33 = .ok (.iload_n 1, 1) := by decide +kernel
theorem dX1_isFolded_34 : decode cX1_isFolded 34 = .ok (.iaload, 1) := by decide +kernel
theorem dX1_isFolded_35 : decode cX1_isFolded 35 = .ok (.if_icmp .le 7, 3) := by decide +kernel
theorem dX1_isFolded_38 : decode cX1_isFolded 38 = .ok (.iconst 1, 1) := by decide +kernel
theorem dX1_isFolded_39 : decode cX1_isFolded 39 = .ok (.goto 4, 3) := by decide +kernel
theorem dX1_isFolded_42 : decode cX1_isFolded 42 = .ok (.iconst 0, 1) := by decide +kernel
theorem dX1_isFolded_43 : decode cX1_isFolded 43 = .ok (.ireturn, 1) := by decide +kernel
theorem dX1_isBare_0 : decode cX1_isBare 0 = .ok (.aload_n 0, 1) := by decide +kernel
theorem dX1_isBare_1 : decode cX1_isBare 1 = .ok (.getfield 12, 3) := by decide +kernel
theorem dX1_isBare_4 : decode cX1_isBare 4 = .ok (.iload_n 1, 1) := by decide +kernel
theorem dX1_isBare_5 : decode cX1_isBare 5 = .ok (.invokevirtual 55, 3) := by decide +kernel
theorem dX1_isBare_8 : decode cX1_isBare 8 = .ok (.invokestatic 69, 3) := by decide +kernel
theorem dX1_isBare_11 : decode cX1_isBare 11 = .ok (.ifCond .eq 18, 3) := by decide +kernel
theorem dX1_isBare_14 : decode cX1_isBare 14 = .ok (.aload_n 0, 1) := by decide +kernel
theorem dX1_isBare_15 : decode cX1_isBare 15 = .ok (.getfield 18, 3) := by decide +kernel
theorem dX1_isBare_18 : decode cX1_isBare 18 = .ok (.iload_n 1, 1) := by decide +kernel
theorem dX1_isBare_19 : decode cX1_isBare 19 = .ok (.iaload, 1) := by decide +kernel
theorem dX1_isBare_20 : decode cX1_isBare 20 = .ok (.bipush (-4), 2) := by decide +kernel
theorem dX1_isBare_22 : decode cX1_isBare 22 = .ok (.if_icmp .ne 7, 3) := by decide +kernel
theorem dX1_isBare_25 : decode cX1_isBare 25 = .ok (.iconst 1, 1) := by decide +kernel
theorem dX1_isBare_26 : decode cX1_isBare 26 = .ok (.goto 4, 3) := by decide +kernel
theorem dX1_isBare_29 : decode cX1_isBare 29 = .ok (.iconst 0, 1) := by decide +kernel
theorem dX1_isBare_30 : decode cX1_isBare 30 = .ok (.ireturn, 1) := by decide +kernel
theorem dX1_clashes_0 : decode cX1_clashes 0 = .ok (.aload_n 0, 1) := by decide +kernel
theorem dX1_clashes_1 : decode cX1_clashes 1 = .ok (.getfield 18, 3) := by decide +kernel
theorem dX1_clashes_4 : decode cX1_clashes 4 = .ok (.iload_n 1, 1) := by decide +kernel
theorem dX1_clashes_5 : decode cX1_clashes 5 = .ok (.iaload, 1) := by decide +kernel
theorem dX1_clashes_6 : decode cX1_clashes 6 = .ok (.istore_n 2, 1) := by decide +kernel
theorem dX1_clashes_7 : decode cX1_clashes 7 = .ok (.iload_n 2, 1) := by decide +kernel
theorem dX1_clashes_8 : decode cX1_clashes 8 = .ok (.ifCond .lt 32, 3) := by decide +kernel
theorem dX1_clashes_11 : decode cX1_clashes 11 = .ok (.aload_n 0, 1) := by decide +kernel
theorem dX1_clashes_12 : decode cX1_clashes 12 = .ok (.getfield 12, 3) := by decide +kernel
theorem dX1_clashes_15 : decode cX1_clashes 15 = .ok (.iload_n 1, 1) := by decide +kernel
theorem dX1_clashes_16 : decode cX1_clashes 16 = .ok (.invokevirtual 55, 3) := by decide +kernel
theorem dX1_clashes_19 : decode cX1_clashes 19 = .ok (.invokestatic 72, 3) := by decide +kernel
theorem dX1_clashes_22 : decode cX1_clashes 22 = .ok (.aload_n 0, 1) := by decide +kernel
theorem dX1_clashes_23 : decode cX1_clashes 23 = .ok (.getfield 12, 3) := by decide +kernel
theorem dX1_clashes_26 : decode cX1_clashes 26 = .ok (.iload_n 2, 1) := by decide +kernel
theorem dX1_clashes_27 : decode cX1_clashes 27 = .ok (.invokevirtual 55, 3) := by decide +kernel
theorem dX1_clashes_30 : decode cX1_clashes 30 = .ok (.invokestatic 72, 3) := by decide +kernel
theorem dX1_clashes_33 : decode cX1_clashes 33 = .ok (.if_icmp .eq 7, 3) := by decide +kernel
theorem dX1_clashes_36 : decode cX1_clashes 36 = .ok (.iconst 1, 1) := by decide +kernel
theorem dX1_clashes_37 : decode cX1_clashes 37 = .ok (.goto 4, 3) := by decide +kernel
theorem dX1_clashes_40 : decode cX1_clashes 40 = .ok (.iconst 0, 1) := by decide +kernel
theorem dX1_clashes_41 : decode cX1_clashes 41 = .ok (.ireturn, 1) := by decide +kernel
theorem dX1_tally_0 : decode cX1_tally 0 = .ok (.iconst 0, 1) := by decide +kernel
theorem dX1_tally_1 : decode cX1_tally 1 = .ok (.istore_n 2, 1) := by decide +kernel
theorem dX1_tally_2 : decode cX1_tally 2 = .ok (.iconst 0, 1) := by decide +kernel
theorem dX1_tally_3 : decode cX1_tally 3 = .ok (.istore_n 3, 1) := by decide +kernel
theorem dX1_tally_4 : decode cX1_tally 4 = .ok (.iload_n 3, 1) := by decide +kernel
theorem dX1_tally_5 : decode cX1_tally 5 = .ok (.aload_n 0, 1) := by decide +kernel
theorem dX1_tally_6 : decode cX1_tally 6 = .ok (.getfield 12, 3) := by decide +kernel
theorem dX1_tally_9 : decode cX1_tally 9 = .ok (.getfield 41, 3) := by decide +kernel
theorem dX1_tally_12 : decode cX1_tally 12 = .ok (.if_icmp .ge 21, 3) := by decide +kernel
theorem dX1_tally_15 : decode cX1_tally 15 = .ok (.iload_n 2, 1) := by decide +kernel
theorem dX1_tally_16 : decode cX1_tally 16 = .ok (.aload_n 0, 1) := by decide +kernel
theorem dX1_tally_17 : decode cX1_tally 17 = .ok (.iload_n 3, 1) := by decide +kernel
theorem dX1_tally_18 : decode cX1_tally 18 = .ok (.iload_n 1, 1) := by decide +kernel
theorem dX1_tally_19 : decode cX1_tally 19 = .ok (.invokevirtual 88, 3) := by decide +kernel
theorem dX1_tally_22 : decode cX1_tally 22 = .ok (.invokestatic 75, 3) := by decide +kernel
theorem dX1_tally_25 : decode cX1_tally 25 = .ok (.iadd, 1) := by decide +kernel
theorem dX1_tally_26 : decode cX1_tally 26 = .ok (.istore_n 2, 1) := by decide +kernel
theorem dX1_tally_27 : decode cX1_tally 27 = .ok (.iinc 3 1, 3) := by decide +kernel
theorem dX1_tally_30 : decode cX1_tally 30 = .ok (.goto (-26), 3) := by decide +kernel
theorem dX1_tally_33 : decode cX1_tally 33 = .ok (.iload_n 2, 1) := by decide +kernel
theorem dX1_tally_34 : decode cX1_tally 34 = .ok (.ireturn, 1) := by decide +kernel
theorem dX1_belongsTo_0 : decode cX1_belongsTo 0 = .ok (.iload_n 2, 1) := by decide +kernel
theorem dX1_belongsTo_1 : decode cX1_belongsTo 1 = .ok (.tableswitch 107 2 7 #[39, 55, 61, 85, 91, 98], 39) := by decide +kernel
theorem dX1_belongsTo_40 : decode cX1_belongsTo 40 = .ok (.aload_n 0, 1) := by decide +kernel
theorem dX1_belongsTo_41 : decode cX1_belongsTo 41 = .ok (.getfield 18, 3) := by decide +kernel
theorem dX1_belongsTo_44 : decode cX1_belongsTo 44 = .ok (.iload_n 1, 1) := by decide +kernel
theorem dX1_belongsTo_45 : decode cX1_belongsTo 45 = .ok (.iaload, 1) := by decide +kernel
theorem dX1_belongsTo_46 : decode cX1_belongsTo 46 = .ok (.iload_n 1, 1) := by decide +kernel
theorem dX1_belongsTo_47 : decode cX1_belongsTo 47 = .ok (.if_icmp .le 7, 3) := by decide +kernel
theorem dX1_belongsTo_50 : decode cX1_belongsTo 50 = .ok (.iconst 1, 1) := by decide +kernel
theorem dX1_belongsTo_51 : decode cX1_belongsTo 51 = .ok (.goto 4, 3) := by decide +kernel
theorem dX1_belongsTo_54 : decode cX1_belongsTo 54 = .ok (.iconst 0, 1) := by decide +kernel
theorem dX1_belongsTo_55 : decode cX1_belongsTo 55 = .ok (.ireturn, 1) := by decide +kernel
theorem dX1_belongsTo_56 : decode cX1_belongsTo 56 = .ok (.aload_n 0, 1) := by decide +kernel
theorem dX1_belongsTo_57 : decode cX1_belongsTo 57 = .ok (.iload_n 1, 1) := by decide +kernel
theorem dX1_belongsTo_58 : decode cX1_belongsTo 58 = .ok (.invokevirtual 91, 3) := by decide +kernel
theorem dX1_belongsTo_61 : decode cX1_belongsTo 61 = .ok (.ireturn, 1) := by decide +kernel
theorem dX1_belongsTo_62 : decode cX1_belongsTo 62 = .ok (.aload_n 0, 1) := by decide +kernel
theorem dX1_belongsTo_63 : decode cX1_belongsTo 63 = .ok (.getfield 18, 3) := by decide +kernel
theorem dX1_belongsTo_66 : decode cX1_belongsTo 66 = .ok (.iload_n 1, 1) := by decide +kernel
theorem dX1_belongsTo_67 : decode cX1_belongsTo 67 = .ok (.iaload, 1) := by decide +kernel
theorem dX1_belongsTo_68 : decode cX1_belongsTo 68 = .ok (.iload_n 1, 1) := by decide +kernel
theorem dX1_belongsTo_69 : decode cX1_belongsTo 69 = .ok (.if_icmp .le 15, 3) := by decide +kernel
theorem dX1_belongsTo_72 : decode cX1_belongsTo 72 = .ok (.aload_n 0, 1) := by decide +kernel
theorem dX1_belongsTo_73 : decode cX1_belongsTo 73 = .ok (.iload_n 1, 1) := by decide +kernel
theorem dX1_belongsTo_74 : decode cX1_belongsTo 74 = .ok (.invokevirtual 94, 3) := by decide +kernel
theorem dX1_belongsTo_77 : decode cX1_belongsTo 77 = .ok (.ifCond .eq 7, 3) := by decide +kernel
theorem dX1_belongsTo_80 : decode cX1_belongsTo 80 = .ok (.iconst 1, 1) := by decide +kernel
theorem dX1_belongsTo_81 : decode cX1_belongsTo 81 = .ok (.goto 4, 3) := by decide +kernel
theorem dX1_belongsTo_84 : decode cX1_belongsTo 84 = .ok (.iconst 0, 1) := by decide +kernel
theorem dX1_belongsTo_85 : decode cX1_belongsTo 85 = .ok (.ireturn, 1) := by decide +kernel
theorem dX1_belongsTo_86 : decode cX1_belongsTo 86 = .ok (.aload_n 0, 1) := by decide +kernel
theorem dX1_belongsTo_87 : decode cX1_belongsTo 87 = .ok (.iload_n 1, 1) := by decide +kernel
theorem dX1_belongsTo_88 : decode cX1_belongsTo 88 = .ok (.invokevirtual 82, 3) := by decide +kernel
theorem dX1_belongsTo_91 : decode cX1_belongsTo 91 = .ok (.ireturn, 1) := by decide +kernel
theorem dX1_belongsTo_92 : decode cX1_belongsTo 92 = .ok (.aload_n 0, 1) := by decide +kernel
theorem dX1_belongsTo_93 : decode cX1_belongsTo 93 = .ok (.getfield 37, 3) := by decide +kernel
theorem dX1_belongsTo_96 : decode cX1_belongsTo 96 = .ok (.iload_n 1, 1) := by decide +kernel
theorem dX1_belongsTo_97 : decode cX1_belongsTo 97 = .ok (.baload, 1) := by decide +kernel
theorem dX1_belongsTo_98 : decode cX1_belongsTo 98 = .ok (.ireturn, 1) := by decide +kernel
theorem dX1_belongsTo_99 : decode cX1_belongsTo 99 = .ok (.aload_n 0, 1) := by decide +kernel
theorem dX1_belongsTo_100 : decode cX1_belongsTo 100 = .ok (.getfield 12, 3) := by decide +kernel
theorem dX1_belongsTo_103 : decode cX1_belongsTo 103 = .ok (.iload_n 1, 1) := by decide +kernel
theorem dX1_belongsTo_104 : decode cX1_belongsTo 104 = .ok (.invokevirtual 85, 3) := by decide +kernel
theorem dX1_belongsTo_107 : decode cX1_belongsTo 107 = .ok (.ireturn, 1) := by decide +kernel
theorem dX1_belongsTo_108 : decode cX1_belongsTo 108 = .ok (.iconst 0, 1) := by decide +kernel
theorem dX1_belongsTo_109 : decode cX1_belongsTo 109 = .ok (.ireturn, 1) := by decide +kernel
theorem dX1_greatestLevel_0 : decode cX1_greatestLevel 0 = .ok (.iconst 0, 1) := by decide +kernel
theorem dX1_greatestLevel_1 : decode cX1_greatestLevel 1 = .ok (.istore_n 1, 1) := by decide +kernel
theorem dX1_greatestLevel_2 : decode cX1_greatestLevel 2 = .ok (.iconst 0, 1) := by decide +kernel
theorem dX1_greatestLevel_3 : decode cX1_greatestLevel 3 = .ok (.istore_n 2, 1) := by decide +kernel
theorem dX1_greatestLevel_4 : decode cX1_greatestLevel 4 = .ok (.iload_n 2, 1) := by decide +kernel
theorem dX1_greatestLevel_5 : decode cX1_greatestLevel 5 = .ok (.aload_n 0, 1) := by decide +kernel
theorem dX1_greatestLevel_6 : decode cX1_greatestLevel 6 = .ok (.getfield 12, 3) := by decide +kernel
theorem dX1_greatestLevel_9 : decode cX1_greatestLevel 9 = .ok (.getfield 41, 3) := by decide +kernel
theorem dX1_greatestLevel_12 : decode cX1_greatestLevel 12 = .ok (.if_icmp .ge 20, 3) := by decide +kernel
theorem dX1_greatestLevel_15 : decode cX1_greatestLevel 15 = .ok (.iload_n 1, 1) := by decide +kernel
theorem dX1_greatestLevel_16 : decode cX1_greatestLevel 16 = .ok (.aload_n 0, 1) := by decide +kernel
theorem dX1_greatestLevel_17 : decode cX1_greatestLevel 17 = .ok (.getfield 34, 3) := by decide +kernel
theorem dX1_greatestLevel_20 : decode cX1_greatestLevel 20 = .ok (.iload_n 2, 1) := by decide +kernel
theorem dX1_greatestLevel_21 : decode cX1_greatestLevel 21 = .ok (.iaload, 1) := by decide +kernel
theorem dX1_greatestLevel_22 : decode cX1_greatestLevel 22 = .ok (.invokestatic 97, 3) := by decide +kernel
theorem dX1_greatestLevel_25 : decode cX1_greatestLevel 25 = .ok (.istore_n 1, 1) := by decide +kernel
theorem dX1_greatestLevel_26 : decode cX1_greatestLevel 26 = .ok (.iinc 2 1, 3) := by decide +kernel
theorem dX1_greatestLevel_29 : decode cX1_greatestLevel 29 = .ok (.goto (-25), 3) := by decide +kernel
theorem dX1_greatestLevel_32 : decode cX1_greatestLevel 32 = .ok (.iload_n 1, 1) := by decide +kernel
theorem dX1_greatestLevel_33 : decode cX1_greatestLevel 33 = .ok (.ireturn, 1) := by decide +kernel
theorem dX1_leastDepth_0 : decode cX1_leastDepth 0 = .ok (.aload_n 0, 1) := by decide +kernel
theorem dX1_leastDepth_1 : decode cX1_leastDepth 1 = .ok (.getfield 28, 3) := by decide +kernel
theorem dX1_leastDepth_4 : decode cX1_leastDepth 4 = .ok (.iload_n 1, 1) := by decide +kernel
theorem dX1_leastDepth_5 : decode cX1_leastDepth 5 = .ok (.iaload, 1) := by decide +kernel
theorem dX1_leastDepth_6 : decode cX1_leastDepth 6 = .ok (.istore_n 3, 1) := by decide +kernel
theorem dX1_leastDepth_7 : decode cX1_leastDepth 7 = .ok (.iload_n 1, 1) := by decide +kernel
theorem dX1_leastDepth_8 : decode cX1_leastDepth 8 = .ok (.istore 4, 2) := by decide +kernel
theorem dX1_leastDepth_10 : decode cX1_leastDepth 10 = .ok (.iload 4, 2) := by decide +kernel
theorem dX1_leastDepth_12 : decode cX1_leastDepth 12 = .ok (.iload_n 2, 1) := by decide +kernel
theorem dX1_leastDepth_13 : decode cX1_leastDepth 13 = .ok (.if_icmp .gt 21, 3) := by decide +kernel
theorem dX1_leastDepth_16 : decode cX1_leastDepth 16 = .ok (.iload_n 3, 1) := by decide +kernel
theorem dX1_leastDepth_17 : decode cX1_leastDepth 17 = .ok (.aload_n 0, 1) := by decide +kernel
theorem dX1_leastDepth_18 : decode cX1_leastDepth 18 = .ok (.getfield 28, 3) := by decide +kernel
theorem dX1_leastDepth_21 : decode cX1_leastDepth 21 = .ok (.iload 4, 2) := by decide +kernel
theorem dX1_leastDepth_23 : decode cX1_leastDepth 23 = .ok (.iaload, 1) := by decide +kernel
theorem dX1_leastDepth_24 : decode cX1_leastDepth 24 = .ok (.invokestatic 103, 3) := by decide +kernel
theorem dX1_leastDepth_27 : decode cX1_leastDepth 27 = .ok (.istore_n 3, 1) := by decide +kernel
theorem dX1_leastDepth_28 : decode cX1_leastDepth 28 = .ok (.iinc 4 1, 3) := by decide +kernel
theorem dX1_leastDepth_31 : decode cX1_leastDepth 31 = .ok (.goto (-21), 3) := by decide +kernel
theorem dX1_leastDepth_34 : decode cX1_leastDepth 34 = .ok (.iload_n 3, 1) := by decide +kernel
theorem dX1_leastDepth_35 : decode cX1_leastDepth 35 = .ok (.ireturn, 1) := by decide +kernel
theorem dX1_innermostAround_0 : decode cX1_innermostAround 0 = .ok (.iload_n 2, 1) := by decide +kernel
theorem dX1_innermostAround_1 : decode cX1_innermostAround 1 = .ok (.iconst 3, 1) := by decide +kernel
theorem dX1_innermostAround_2 : decode cX1_innermostAround 2 = .ok (.if_icmp .ne 10, 3) := by decide +kernel
theorem dX1_innermostAround_5 : decode cX1_innermostAround 5 = .ok (.aload_n 0, 1) := by decide +kernel
theorem dX1_innermostAround_6 : decode cX1_innermostAround 6 = .ok (.getfield 18, 3) := by decide +kernel
theorem dX1_innermostAround_9 : decode cX1_innermostAround 9 = .ok (.goto 7, 3) := by decide +kernel
theorem dX1_innermostAround_12 : decode cX1_innermostAround 12 = .ok (.aload_n 0, 1) := by decide +kernel
theorem dX1_innermostAround_13 : decode cX1_innermostAround 13 = .ok (.getfield 22, 3) := by decide +kernel
theorem dX1_innermostAround_16 : decode cX1_innermostAround 16 = .ok (.astore_n 3, 1) := by decide +kernel
theorem dX1_innermostAround_17 : decode cX1_innermostAround 17 = .ok (.iload_n 1, 1) := by decide +kernel
theorem dX1_innermostAround_18 : decode cX1_innermostAround 18 = .ok (.iconst 1, 1) := by decide +kernel
theorem dX1_innermostAround_19 : decode cX1_innermostAround 19 = .ok (.isub, 1) := by decide +kernel
theorem dX1_innermostAround_20 : decode cX1_innermostAround 20 = .ok (.istore 4, 2) := by decide +kernel
theorem dX1_innermostAround_22 : decode cX1_innermostAround 22 = .ok (.iload 4, 2) := by decide +kernel
theorem dX1_innermostAround_24 : decode cX1_innermostAround 24 = .ok (.ifCond .lt 36, 3) := by decide +kernel
theorem dX1_innermostAround_27 : decode cX1_innermostAround 27 = .ok (.aload_n 0, 1) := by decide +kernel
theorem dX1_innermostAround_28 : decode cX1_innermostAround 28 = .ok (.getfield 12, 3) := by decide +kernel
theorem dX1_innermostAround_31 : decode cX1_innermostAround 31 = .ok (.iload 4, 2) := by decide +kernel
theorem dX1_innermostAround_33 : decode cX1_innermostAround 33 = .ok (.invokevirtual 55, 3) := by decide +kernel
theorem dX1_innermostAround_36 : decode cX1_innermostAround 36 = .ok (.iload_n 2, 1) := by decide +kernel
theorem dX1_innermostAround_37 : decode cX1_innermostAround 37 = .ok (.invokestatic 59, 3) := by decide +kernel
theorem dX1_innermostAround_40 : decode cX1_innermostAround 40 = .ok (.ifCond .eq 14, 3) := by decide +kernel
theorem dX1_innermostAround_43 : decode cX1_innermostAround 43 = .ok (.aload_n 3, 1) := by decide +kernel
theorem dX1_innermostAround_44 : decode cX1_innermostAround 44 = .ok (.iload 4, 2) := by decide +kernel
theorem dX1_innermostAround_46 : decode cX1_innermostAround 46 = .ok (.iaload, 1) := by decide +kernel
theorem dX1_innermostAround_47 : decode cX1_innermostAround 47 = .ok (.iload_n 1, 1) := by decide +kernel
theorem dX1_innermostAround_48 : decode cX1_innermostAround 48 = .ok (.if_icmp .le 6, 3) := by decide +kernel
theorem dX1_innermostAround_51 : decode cX1_innermostAround 51 = .ok (.iload 4, 2) := by decide +kernel
theorem dX1_innermostAround_53 : decode cX1_innermostAround 53 = .ok (.ireturn, 1) := by decide +kernel
theorem dX1_innermostAround_54 : decode cX1_innermostAround 54 = .ok (.iinc 4 (-1), 3) := by decide +kernel
theorem dX1_innermostAround_57 : decode cX1_innermostAround 57 = .ok (.goto (-35), 3) := by decide +kernel
theorem dX1_innermostAround_60 : decode cX1_innermostAround 60 = .ok (.bipush (-4), 2) := by decide +kernel
theorem dX1_innermostAround_62 : decode cX1_innermostAround 62 = .ok (.ireturn, 1) := by decide +kernel
theorem dX1_wholeTill_0 : decode cX1_wholeTill 0 = .ok (.iload_n 1, 1) := by decide +kernel
theorem dX1_wholeTill_1 : decode cX1_wholeTill 1 = .ok (.istore_n 2, 1) := by decide +kernel
theorem dX1_wholeTill_2 : decode cX1_wholeTill 2 = .ok (.iload_n 2, 1) := by decide +kernel
theorem dX1_wholeTill_3 : decode cX1_wholeTill 3 = .ok (.aload_n 0, 1) := by decide +kernel
theorem dX1_wholeTill_4 : decode cX1_wholeTill 4 = .ok (.getfield 12, 3) := by decide +kernel
theorem dX1_wholeTill_7 : decode cX1_wholeTill 7 = .ok (.getfield 41, 3) := by decide +kernel
theorem dX1_wholeTill_10 : decode cX1_wholeTill 10 = .ok (.if_icmp .ge 35, 3) := by decide +kernel
theorem dX1_wholeTill_13 : decode cX1_wholeTill 13 = .ok (.aload_n 0, 1) := by decide +kernel
theorem dX1_wholeTill_14 : decode cX1_wholeTill 14 = .ok (.getfield 12, 3) := by decide +kernel
theorem dX1_wholeTill_17 : decode cX1_wholeTill 17 = .ok (.iload_n 2, 1) := by decide +kernel
theorem dX1_wholeTill_18 : decode cX1_wholeTill 18 = .ok (.invokevirtual 55, 3) := by decide +kernel
theorem dX1_wholeTill_21 : decode cX1_wholeTill 21 = .ok (.invokestatic 69, 3) := by decide +kernel
theorem dX1_wholeTill_24 : decode cX1_wholeTill 24 = .ok (.ifCond .eq 15, 3) := by decide +kernel
theorem dX1_wholeTill_27 : decode cX1_wholeTill 27 = .ok (.aload_n 0, 1) := by decide +kernel
theorem dX1_wholeTill_28 : decode cX1_wholeTill 28 = .ok (.getfield 18, 3) := by decide +kernel
theorem dX1_wholeTill_31 : decode cX1_wholeTill 31 = .ok (.iload_n 2, 1) := by decide +kernel
theorem dX1_wholeTill_32 : decode cX1_wholeTill 32 = .ok (.iaload, 1) := by decide +kernel
theorem dX1_wholeTill_33 : decode cX1_wholeTill 33 = .ok (.iload_n 1, 1) := by decide +kernel
theorem dX1_wholeTill_34 : decode cX1_wholeTill 34 = .ok (.if_icmp .ge 5, 3) := by decide +kernel
theorem dX1_wholeTill_37 : decode cX1_wholeTill 37 = .ok (.iload_n 2, 1) := by decide +kernel
theorem dX1_wholeTill_38 : decode cX1_wholeTill 38 = .ok (.ireturn, 1) := by decide +kernel
theorem dX1_wholeTill_39 : decode cX1_wholeTill 39 = .ok (.iinc 2 1, 3) := by decide +kernel
theorem dX1_wholeTill_42 : decode cX1_wholeTill 42 = .ok (.goto (-40), 3) := by decide +kernel
theorem dX1_wholeTill_45 : decode cX1_wholeTill 45 = .ok (.aload_n 0, 1) := by decide +kernel
theorem dX1_wholeTill_46 : decode cX1_wholeTill 46 = .ok (.getfield 12, 3) := by decide +kernel
theorem dX1_wholeTill_49 : decode cX1_wholeTill 49 = .ok (.getfield 41, 3) := by decide +kernel
theorem dX1_wholeTill_52 : decode cX1_wholeTill 52 = .ok (.ireturn, 1) := by decide +kernel
theorem dX1_longestFrom_0 : decode cX1_longestFrom 0 = .ok (.iconst 0, 1) := by decide +kernel
theorem dX1_longestFrom_1 : decode cX1_longestFrom 1 = .ok (.istore_n 1, 1) := by decide +kernel
theorem dX1_longestFrom_2 : decode cX1_longestFrom 2 = .ok (.iconst 0, 1) := by decide +kernel
theorem dX1_longestFrom_3 : decode cX1_longestFrom 3 = .ok (.istore_n 2, 1) := by decide +kernel
theorem dX1_longestFrom_4 : decode cX1_longestFrom 4 = .ok (.iconst 0, 1) := by decide +kernel
theorem dX1_longestFrom_5 : decode cX1_longestFrom 5 = .ok (.istore_n 3, 1) := by decide +kernel
theorem dX1_longestFrom_6 : decode cX1_longestFrom 6 = .ok (.iload_n 3, 1) := by decide +kernel
theorem dX1_longestFrom_7 : decode cX1_longestFrom 7 = .ok (.aload_n 0, 1) := by decide +kernel
theorem dX1_longestFrom_8 : decode cX1_longestFrom 8 = .ok (.getfield 12, 3) := by decide +kernel
theorem dX1_longestFrom_11 : decode cX1_longestFrom 11 = .ok (.getfield 41, 3) := by decide +kernel
theorem dX1_longestFrom_14 : decode cX1_longestFrom 14 = .ok (.if_icmp .ge 29, 3) := by decide +kernel
theorem dX1_longestFrom_17 : decode cX1_longestFrom 17 = .ok (.aload_n 0, 1) := by decide +kernel
theorem dX1_longestFrom_18 : decode cX1_longestFrom 18 = .ok (.iload_n 3, 1) := by decide +kernel
theorem dX1_longestFrom_19 : decode cX1_longestFrom 19 = .ok (.invokevirtual 106, 3) := by decide +kernel
theorem dX1_longestFrom_22 : decode cX1_longestFrom 22 = .ok (.iload_n 3, 1) := by decide +kernel
theorem dX1_longestFrom_23 : decode cX1_longestFrom 23 = .ok (.isub, 1) := by decide +kernel
theorem dX1_longestFrom_24 : decode cX1_longestFrom 24 = .ok (.istore 4, 2) := by decide +kernel
theorem dX1_longestFrom_26 : decode cX1_longestFrom 26 = .ok (.iload 4, 2) := by decide +kernel
theorem dX1_longestFrom_28 : decode cX1_longestFrom 28 = .ok (.iload_n 2, 1) := by decide +kernel
theorem dX1_longestFrom_29 : decode cX1_longestFrom 29 = .ok (.if_icmp .le 8, 3) := by decide +kernel
theorem dX1_longestFrom_32 : decode cX1_longestFrom 32 = .ok (.iload_n 3, 1) := by decide +kernel
theorem dX1_longestFrom_33 : decode cX1_longestFrom 33 = .ok (.istore_n 1, 1) := by decide +kernel
theorem dX1_longestFrom_34 : decode cX1_longestFrom 34 = .ok (.iload 4, 2) := by decide +kernel
theorem dX1_longestFrom_36 : decode cX1_longestFrom 36 = .ok (.istore_n 2, 1) := by decide +kernel
theorem dX1_longestFrom_37 : decode cX1_longestFrom 37 = .ok (.iinc 3 1, 3) := by decide +kernel
theorem dX1_longestFrom_40 : decode cX1_longestFrom 40 = .ok (.goto (-34), 3) := by decide +kernel
theorem dX1_longestFrom_43 : decode cX1_longestFrom 43 = .ok (.iload_n 1, 1) := by decide +kernel
theorem dX1_longestFrom_44 : decode cX1_longestFrom 44 = .ok (.ireturn, 1) := by decide +kernel
theorem dX1_nextBare_0 : decode cX1_nextBare 0 = .ok (.iload_n 1, 1) := by decide +kernel
theorem dX1_nextBare_1 : decode cX1_nextBare 1 = .ok (.istore_n 2, 1) := by decide +kernel
theorem dX1_nextBare_2 : decode cX1_nextBare 2 = .ok (.iload_n 2, 1) := by decide +kernel
theorem dX1_nextBare_3 : decode cX1_nextBare 3 = .ok (.aload_n 0, 1) := by decide +kernel
theorem dX1_nextBare_4 : decode cX1_nextBare 4 = .ok (.getfield 12, 3) := by decide +kernel
theorem dX1_nextBare_7 : decode cX1_nextBare 7 = .ok (.getfield 41, 3) := by decide +kernel
theorem dX1_nextBare_10 : decode cX1_nextBare 10 = .ok (.if_icmp .ge 19, 3) := by decide +kernel
theorem dX1_nextBare_13 : decode cX1_nextBare 13 = .ok (.aload_n 0, 1) := by decide +kernel
theorem dX1_nextBare_14 : decode cX1_nextBare 14 = .ok (.iload_n 2, 1) := by decide +kernel
theorem dX1_nextBare_15 : decode cX1_nextBare 15 = .ok (.invokevirtual 91, 3) := by decide +kernel
theorem dX1_nextBare_18 : decode cX1_nextBare 18 = .ok (.ifCond .eq 5, 3) := by decide +kernel
theorem dX1_nextBare_21 : decode cX1_nextBare 21 = .ok (.iload_n 2, 1) := by decide +kernel
theorem dX1_nextBare_22 : decode cX1_nextBare 22 = .ok (.ireturn, 1) := by decide +kernel
theorem dX1_nextBare_23 : decode cX1_nextBare 23 = .ok (.iinc 2 1, 3) := by decide +kernel
theorem dX1_nextBare_26 : decode cX1_nextBare 26 = .ok (.goto (-24), 3) := by decide +kernel
theorem dX1_nextBare_29 : decode cX1_nextBare 29 = .ok (.bipush (-4), 2) := by decide +kernel
theorem dX1_nextBare_31 : decode cX1_nextBare 31 = .ok (.ireturn, 1) := by decide +kernel
theorem dX1_lastBare_0 : decode cX1_lastBare 0 = .ok (.iload_n 1, 1) := by decide +kernel
theorem dX1_lastBare_1 : decode cX1_lastBare 1 = .ok (.iconst 1, 1) := by decide +kernel
theorem dX1_lastBare_2 : decode cX1_lastBare 2 = .ok (.isub, 1) := by decide +kernel
theorem dX1_lastBare_3 : decode cX1_lastBare 3 = .ok (.istore_n 2, 1) := by decide +kernel
theorem dX1_lastBare_4 : decode cX1_lastBare 4 = .ok (.iload_n 2, 1) := by decide +kernel
theorem dX1_lastBare_5 : decode cX1_lastBare 5 = .ok (.ifCond .lt 19, 3) := by decide +kernel
theorem dX1_lastBare_8 : decode cX1_lastBare 8 = .ok (.aload_n 0, 1) := by decide +kernel
theorem dX1_lastBare_9 : decode cX1_lastBare 9 = .ok (.iload_n 2, 1) := by decide +kernel
theorem dX1_lastBare_10 : decode cX1_lastBare 10 = .ok (.invokevirtual 91, 3) := by decide +kernel
theorem dX1_lastBare_13 : decode cX1_lastBare 13 = .ok (.ifCond .eq 5, 3) := by decide +kernel
theorem dX1_lastBare_16 : decode cX1_lastBare 16 = .ok (.iload_n 2, 1) := by decide +kernel
theorem dX1_lastBare_17 : decode cX1_lastBare 17 = .ok (.ireturn, 1) := by decide +kernel
theorem dX1_lastBare_18 : decode cX1_lastBare 18 = .ok (.iinc 2 (-1), 3) := by decide +kernel
theorem dX1_lastBare_21 : decode cX1_lastBare 21 = .ok (.goto (-17), 3) := by decide +kernel
theorem dX1_lastBare_24 : decode cX1_lastBare 24 = .ok (.bipush (-4), 2) := by decide +kernel
theorem dX1_lastBare_26 : decode cX1_lastBare 26 = .ok (.ireturn, 1) := by decide +kernel
theorem dX1_seenAt_0 : decode cX1_seenAt 0 = .ok (.iconst 0, 1) := by decide +kernel
theorem dX1_seenAt_1 : decode cX1_seenAt 1 = .ok (.istore_n 2, 1) := by decide +kernel
theorem dX1_seenAt_2 : decode cX1_seenAt 2 = .ok (.iconst 0, 1) := by decide +kernel
theorem dX1_seenAt_3 : decode cX1_seenAt 3 = .ok (.istore_n 3, 1) := by decide +kernel
theorem dX1_seenAt_4 : decode cX1_seenAt 4 = .ok (.iload_n 3, 1) := by decide +kernel
theorem dX1_seenAt_5 : decode cX1_seenAt 5 = .ok (.aload_n 0, 1) := by decide +kernel
theorem dX1_seenAt_6 : decode cX1_seenAt 6 = .ok (.getfield 12, 3) := by decide +kernel
theorem dX1_seenAt_9 : decode cX1_seenAt 9 = .ok (.getfield 41, 3) := by decide +kernel
theorem dX1_seenAt_12 : decode cX1_seenAt 12 = .ok (.if_icmp .ge 28, 3) := by decide +kernel
theorem dX1_seenAt_15 : decode cX1_seenAt 15 = .ok (.aload_n 0, 1) := by decide +kernel
theorem dX1_seenAt_16 : decode cX1_seenAt 16 = .ok (.getfield 37, 3) := by decide +kernel
theorem dX1_seenAt_19 : decode cX1_seenAt 19 = .ok (.iload_n 3, 1) := by decide +kernel
theorem dX1_seenAt_20 : decode cX1_seenAt 20 = .ok (.baload, 1) := by decide +kernel
theorem dX1_seenAt_21 : decode cX1_seenAt 21 = .ok (.ifCond .ne 13, 3) := by decide +kernel
theorem dX1_seenAt_24 : decode cX1_seenAt 24 = .ok (.iload_n 2, 1) := by decide +kernel
theorem dX1_seenAt_25 : decode cX1_seenAt 25 = .ok (.iload_n 1, 1) := by decide +kernel
theorem dX1_seenAt_26 : decode cX1_seenAt 26 = .ok (.if_icmp .ne 5, 3) := by decide +kernel
theorem dX1_seenAt_29 : decode cX1_seenAt 29 = .ok (.iload_n 3, 1) := by decide +kernel
theorem dX1_seenAt_30 : decode cX1_seenAt 30 = .ok (.ireturn, 1) := by decide +kernel
theorem dX1_seenAt_31 : decode cX1_seenAt 31 = .ok (.iinc 2 1, 3) := by decide +kernel
theorem dX1_seenAt_34 : decode cX1_seenAt 34 = .ok (.iinc 3 1, 3) := by decide +kernel
theorem dX1_seenAt_37 : decode cX1_seenAt 37 = .ok (.goto (-33), 3) := by decide +kernel
theorem dX1_seenAt_40 : decode cX1_seenAt 40 = .ok (.bipush (-4), 2) := by decide +kernel
theorem dX1_seenAt_42 : decode cX1_seenAt 42 = .ok (.ireturn, 1) := by decide +kernel
theorem dX2_init_0 : decode cX2_init 0 = .ok (.aload_n 0, 1) := by decide +kernel
theorem dX2_init_1 : decode cX2_init 1 = .ok (.invokespecial 3, 3) := by decide +kernel
theorem dX2_init_4 : decode cX2_init 4 = .ok (.aload_n 0, 1) := by decide +kernel
theorem dX2_init_5 : decode cX2_init 5 = .ok (.bipush 21, 2) := by decide +kernel
theorem dX2_init_7 : decode cX2_init 7 = .ok (.anewarray 11, 3) := by decide +kernel
theorem dX2_init_10 : decode cX2_init 10 = .ok (.putfield 13, 3) := by decide +kernel
theorem dX2_init_13 : decode cX2_init 13 = .ok (.iconst 0, 1) := by decide +kernel
theorem dX2_init_14 : decode cX2_init 14 = .ok (.istore_n 1, 1) := by decide +kernel
theorem dX2_init_15 : decode cX2_init 15 = .ok (.iload_n 1, 1) := by decide +kernel
theorem dX2_init_16 : decode cX2_init 16 = .ok (.bipush 21, 2) := by decide +kernel
theorem dX2_init_18 : decode cX2_init 18 = .ok (.if_icmp .ge 22, 3) := by decide +kernel
theorem dX2_init_21 : decode cX2_init 21 = .ok (.aload_n 0, 1) := by decide +kernel
theorem dX2_init_22 : decode cX2_init 22 = .ok (.getfield 13, 3) := by decide +kernel
theorem dX2_init_25 : decode cX2_init 25 = .ok (.iload_n 1, 1) := by decide +kernel
theorem dX2_init_26 : decode cX2_init 26 = .ok (.new 11, 3) := by decide +kernel
theorem dX2_init_29 : decode cX2_init 29 = .ok (.dup, 1) := by decide +kernel
theorem dX2_init_30 : decode cX2_init 30 = .ok (.invokespecial 17, 3) := by decide +kernel
theorem dX2_init_33 : decode cX2_init 33 = .ok (.aastore, 1) := by decide +kernel
theorem dX2_init_34 : decode cX2_init 34 = .ok (.iinc 1 1, 3) := by decide +kernel
theorem dX2_init_37 : decode cX2_init 37 = .ok (.goto (-22), 3) := by decide +kernel
theorem dX2_init_40 : decode cX2_init 40 = .ok (.return_, 1) := by decide +kernel
theorem dX2_add_0 : decode cX2_add 0 = .ok (.aload_n 0, 1) := by decide +kernel
theorem dX2_add_1 : decode cX2_add 1 = .ok (.iconst 0, 1) := by decide +kernel
theorem dX2_add_2 : decode cX2_add 2 = .ok (.putfield 18, 3) := by decide +kernel
theorem dX2_add_5 : decode cX2_add 5 = .ok (.aload_n 0, 1) := by decide +kernel
theorem dX2_add_6 : decode cX2_add 6 = .ok (.getfield 22, 3) := by decide +kernel
theorem dX2_add_9 : decode cX2_add 9 = .ok (.bipush 20, 2) := by decide +kernel
theorem dX2_add_11 : decode cX2_add 11 = .ok (.if_icmp .ge 16, 3) := by decide +kernel
theorem dX2_add_14 : decode cX2_add 14 = .ok (.aload_n 0, 1) := by decide +kernel
theorem dX2_add_15 : decode cX2_add 15 = .ok (.dup, 1) := by decide +kernel
theorem dX2_add_16 : decode cX2_add 16 = .ok (.getfield 22, 3) := by decide +kernel
theorem dX2_add_19 : decode cX2_add 19 = .ok (.iconst 1, 1) := by decide +kernel
theorem dX2_add_20 : decode cX2_add 20 = .ok (.iadd, 1) := by decide +kernel
theorem dX2_add_21 : decode cX2_add 21 = .ok (.putfield 22, 3) := by decide +kernel
theorem dX2_add_24 : decode cX2_add 24 = .ok (.goto 16, 3) := by decide +kernel
theorem dX2_add_27 : decode cX2_add 27 = .ok (.aload_n 0, 1) := by decide +kernel
theorem dX2_add_28 : decode cX2_add 28 = .ok (.aload_n 0, 1) := by decide +kernel
theorem dX2_add_29 : decode cX2_add 29 = .ok (.getfield 25, 3) := by decide +kernel
theorem dX2_add_32 : decode cX2_add 32 = .ok (.iconst 1, 1) := by decide +kernel
theorem dX2_add_33 : decode cX2_add 33 = .ok (.iadd, 1) := by decide +kernel
theorem dX2_add_34 : decode cX2_add 34 = .ok (.bipush 21, 2) := by decide +kernel
theorem dX2_add_36 : decode cX2_add 36 = .ok (.irem, 1) := by decide +kernel
theorem dX2_add_37 : decode cX2_add 37 = .ok (.putfield 25, 3) := by decide +kernel
theorem dX2_add_40 : decode cX2_add 40 = .ok (.aload_n 0, 1) := by decide +kernel
theorem dX2_add_41 : decode cX2_add 41 = .ok (.invokevirtual 28, 3) := by decide +kernel
theorem dX2_add_44 : decode cX2_add 44 = .ok (.aload_n 1, 1) := by decide +kernel
theorem dX2_add_45 : decode cX2_add 45 = .ok (.invokevirtual 32, 3) := by decide +kernel
theorem dX2_add_48 : decode cX2_add 48 = .ok (.return_, 1) := by decide +kernel
theorem dX2_restart_0 : decode cX2_restart 0 = .ok (.aload_n 0, 1) := by decide +kernel
theorem dX2_restart_1 : decode cX2_restart 1 = .ok (.iconst 0, 1) := by decide +kernel
theorem dX2_restart_2 : decode cX2_restart 2 = .ok (.putfield 22, 3) := by decide +kernel
theorem dX2_restart_5 : decode cX2_restart 5 = .ok (.aload_n 0, 1) := by decide +kernel
theorem dX2_restart_6 : decode cX2_restart 6 = .ok (.iconst 0, 1) := by decide +kernel
theorem dX2_restart_7 : decode cX2_restart 7 = .ok (.putfield 18, 3) := by decide +kernel
theorem dX2_restart_10 : decode cX2_restart 10 = .ok (.aload_n 0, 1) := by decide +kernel
theorem dX2_restart_11 : decode cX2_restart 11 = .ok (.invokevirtual 28, 3) := by decide +kernel
theorem dX2_restart_14 : decode cX2_restart 14 = .ok (.aload_n 1, 1) := by decide +kernel
theorem dX2_restart_15 : decode cX2_restart 15 = .ok (.invokevirtual 32, 3) := by decide +kernel
theorem dX2_restart_18 : decode cX2_restart 18 = .ok (.return_, 1) := by decide +kernel
theorem dX2_stepBack_0 : decode cX2_stepBack 0 = .ok (.aload_n 0, 1) := by decide +kernel
theorem dX2_stepBack_1 : decode cX2_stepBack 1 = .ok (.dup, 1) := by decide +kernel
theorem dX2_stepBack_2 : decode cX2_stepBack 2 = .ok (.getfield 22, 3) := by decide +kernel
theorem dX2_stepBack_5 : decode cX2_stepBack 5 = .ok (.iconst 1, 1) := by decide +kernel
theorem dX2_stepBack_6 : decode cX2_stepBack 6 = .ok (.isub, 1) := by decide +kernel
theorem dX2_stepBack_7 : decode cX2_stepBack 7 = .ok (.putfield 22, 3) := by decide +kernel
theorem dX2_stepBack_10 : decode cX2_stepBack 10 = .ok (.aload_n 0, 1) := by decide +kernel
theorem dX2_stepBack_11 : decode cX2_stepBack 11 = .ok (.dup, 1) := by decide +kernel
theorem dX2_stepBack_12 : decode cX2_stepBack 12 = .ok (.getfield 18, 3) := by decide +kernel
theorem dX2_stepBack_15 : decode cX2_stepBack 15 = .ok (.iconst 1, 1) := by decide +kernel
theorem dX2_stepBack_16 : decode cX2_stepBack 16 = .ok (.iadd, 1) := by decide +kernel
theorem dX2_stepBack_17 : decode cX2_stepBack 17 = .ok (.putfield 18, 3) := by decide +kernel
theorem dX2_stepBack_20 : decode cX2_stepBack 20 = .ok (.aload_n 0, 1) := by decide +kernel
theorem dX2_stepBack_21 : decode cX2_stepBack 21 = .ok (.invokevirtual 28, 3) := by decide +kernel
theorem dX2_stepBack_24 : decode cX2_stepBack 24 = .ok (.areturn, 1) := by decide +kernel
theorem dX2_stepOn_0 : decode cX2_stepOn 0 = .ok (.aload_n 0, 1) := by decide +kernel
theorem dX2_stepOn_1 : decode cX2_stepOn 1 = .ok (.dup, 1) := by decide +kernel
theorem dX2_stepOn_2 : decode cX2_stepOn 2 = .ok (.getfield 22, 3) := by decide +kernel
theorem dX2_stepOn_5 : decode cX2_stepOn 5 = .ok (.iconst 1, 1) := by decide +kernel
theorem dX2_stepOn_6 : decode cX2_stepOn 6 = .ok (.iadd, 1) := by decide +kernel
theorem dX2_stepOn_7 : decode cX2_stepOn 7 = .ok (.putfield 22, 3) := by decide +kernel
theorem dX2_stepOn_10 : decode cX2_stepOn 10 = .ok (.aload_n 0, 1) := by decide +kernel
theorem dX2_stepOn_11 : decode cX2_stepOn 11 = .ok (.dup, 1) := by decide +kernel
theorem dX2_stepOn_12 : decode cX2_stepOn 12 = .ok (.getfield 18, 3) := by decide +kernel
theorem dX2_stepOn_15 : decode cX2_stepOn 15 = .ok (.iconst 1, 1) := by decide +kernel
theorem dX2_stepOn_16 : decode cX2_stepOn 16 = .ok (.isub, 1) := by decide +kernel
theorem dX2_stepOn_17 : decode cX2_stepOn 17 = .ok (.putfield 18, 3) := by decide +kernel
theorem dX2_stepOn_20 : decode cX2_stepOn 20 = .ok (.aload_n 0, 1) := by decide +kernel
theorem dX2_stepOn_21 : decode cX2_stepOn 21 = .ok (.invokevirtual 28, 3) := by decide +kernel
theorem dX2_stepOn_24 : decode cX2_stepOn 24 = .ok (.areturn, 1) := by decide +kernel
theorem dX2_present_0 : decode cX2_present 0 = .ok (.aload_n 0, 1) := by decide +kernel
theorem dX2_present_1 : decode cX2_present 1 = .ok (.getfield 13, 3) := by decide +kernel
theorem dX2_present_4 : decode cX2_present 4 = .ok (.aload_n 0, 1) := by decide +kernel
theorem dX2_present_5 : decode cX2_present 5 = .ok (.getfield 25, 3) := by decide +kernel
theorem dX2_present_8 : decode cX2_present 8 = .ok (.aload_n 0, 1) := by decide +kernel
theorem dX2_present_9 : decode cX2_present 9 = .ok (.getfield 22, 3) := by decide +kernel
theorem dX2_present_12 : decode cX2_present 12 = .ok (.iadd, 1) := by decide +kernel
theorem dX2_present_13 : decode cX2_present 13 = .ok (.bipush 21, 2) := by decide +kernel
theorem dX2_present_15 : decode cX2_present 15 = .ok (.irem, 1) := by decide +kernel
theorem dX2_present_16 : decode cX2_present 16 = .ok (.aaload, 1) := by decide +kernel
theorem dX2_present_17 : decode cX2_present 17 = .ok (.areturn, 1) := by decide +kernel
theorem dX3_init_0 : decode cX3_init 0 = .ok (.aload_n 0, 1) := by decide +kernel
theorem dX3_init_1 : decode cX3_init 1 = .ok (.invokespecial 3, 3) := by decide +kernel
theorem dX3_init_4 : decode cX3_init 4 = .ok (.aload_n 0, 1) := by decide +kernel
theorem dX3_init_5 : decode cX3_init 5 = .ok (.bipush 60, 2) := by decide +kernel
theorem dX3_init_7 : decode cX3_init 7 = .ok (.newarray .int, 2) := by decide +kernel
theorem dX3_init_9 : decode cX3_init 9 = .ok (.putfield 9, 3) := by decide +kernel
theorem dX3_init_12 : decode cX3_init 12 = .ok (.return_, 1) := by decide +kernel
theorem dX3_hasSign_0 : decode cX3_hasSign 0 = .ok (.iload_n 1, 1) := by decide +kernel
theorem dX3_hasSign_1 : decode cX3_hasSign 1 = .ok (.ifCond .lt 15, 3) := by decide +kernel
theorem dX3_hasSign_4 : decode cX3_hasSign 4 = .ok (.iload_n 1, 1) := by decide +kernel
theorem dX3_hasSign_5 : decode cX3_hasSign 5 = .ok (.aload_n 0, 1) := by decide +kernel
theorem dX3_hasSign_6 : decode cX3_hasSign 6 = .ok (.getfield 15, 3) := by decide +kernel
theorem dX3_hasSign_9 : decode cX3_hasSign 9 = .ok (.if_icmp .ge 7, 3) := by decide +kernel
theorem dX3_hasSign_12 : decode cX3_hasSign 12 = .ok (.iconst 1, 1) := by decide +kernel
theorem dX3_hasSign_13 : decode cX3_hasSign 13 = .ok (.goto 4, 3) := by decide +kernel
theorem dX3_hasSign_16 : decode cX3_hasSign 16 = .ok (.iconst 0, 1) := by decide +kernel
theorem dX3_hasSign_17 : decode cX3_hasSign 17 = .ok (.ireturn, 1) := by decide +kernel
theorem dX3_hasPlace_0 : decode cX3_hasPlace 0 = .ok (.iload_n 1, 1) := by decide +kernel
theorem dX3_hasPlace_1 : decode cX3_hasPlace 1 = .ok (.ifCond .lt 15, 3) := by decide +kernel
theorem dX3_hasPlace_4 : decode cX3_hasPlace 4 = .ok (.iload_n 1, 1) := by decide +kernel
theorem dX3_hasPlace_5 : decode cX3_hasPlace 5 = .ok (.aload_n 0, 1) := by decide +kernel
theorem dX3_hasPlace_6 : decode cX3_hasPlace 6 = .ok (.getfield 15, 3) := by decide +kernel
theorem dX3_hasPlace_9 : decode cX3_hasPlace 9 = .ok (.if_icmp .gt 7, 3) := by decide +kernel
theorem dX3_hasPlace_12 : decode cX3_hasPlace 12 = .ok (.iconst 1, 1) := by decide +kernel
theorem dX3_hasPlace_13 : decode cX3_hasPlace 13 = .ok (.goto 4, 3) := by decide +kernel
theorem dX3_hasPlace_16 : decode cX3_hasPlace 16 = .ok (.iconst 0, 1) := by decide +kernel
theorem dX3_hasPlace_17 : decode cX3_hasPlace 17 = .ok (.ireturn, 1) := by decide +kernel
theorem dX3_hasPart_0 : decode cX3_hasPart 0 = .ok (.aload_n 0, 1) := by decide +kernel
theorem dX3_hasPart_1 : decode cX3_hasPart 1 = .ok (.iload_n 1, 1) := by decide +kernel
theorem dX3_hasPart_2 : decode cX3_hasPart 2 = .ok (.invokevirtual 19, 3) := by decide +kernel
theorem dX3_hasPart_5 : decode cX3_hasPart 5 = .ok (.ifCond .eq 22, 3) := by decide +kernel
theorem dX3_hasPart_8 : decode cX3_hasPart 8 = .ok (.iload_n 2, 1) := by decide +kernel
theorem dX3_hasPart_9 : decode cX3_hasPart 9 = .ok (.iconst 1, 1) := by decide +kernel
theorem dX3_hasPart_10 : decode cX3_hasPart 10 = .ok (.if_icmp .lt 17, 3) := by decide +kernel
theorem dX3_hasPart_13 : decode cX3_hasPart 13 = .ok (.iload_n 2, 1) := by decide +kernel
theorem dX3_hasPart_14 : decode cX3_hasPart 14 = .ok (.aload_n 0, 1) := by decide +kernel
theorem dX3_hasPart_15 : decode cX3_hasPart 15 = .ok (.getfield 15, 3) := by decide +kernel
theorem dX3_hasPart_18 : decode cX3_hasPart 18 = .ok (.iload_n 1, 1) := by decide +kernel
theorem dX3_hasPart_19 : decode cX3_hasPart 19 = .ok (.isub, 1) := by decide +kernel
theorem dX3_hasPart_20 : decode cX3_hasPart 20 = .ok (.if_icmp .gt 7, 3) := by decide +kernel
theorem dX3_hasPart_23 : decode cX3_hasPart 23 = .ok (.iconst 1, 1) := by decide +kernel
theorem dX3_hasPart_24 : decode cX3_hasPart 24 = .ok (.goto 4, 3) := by decide +kernel
theorem dX3_hasPart_27 : decode cX3_hasPart 27 = .ok (.iconst 0, 1) := by decide +kernel
theorem dX3_hasPart_28 : decode cX3_hasPart 28 = .ok (.ireturn, 1) := by decide +kernel
theorem dX3_room_0 : decode cX3_room 0 = .ok (.bipush 60, 2) := by decide +kernel
theorem dX3_room_2 : decode cX3_room 2 = .ok (.aload_n 0, 1) := by decide +kernel
theorem dX3_room_3 : decode cX3_room 3 = .ok (.getfield 15, 3) := by decide +kernel
theorem dX3_room_6 : decode cX3_room 6 = .ok (.isub, 1) := by decide +kernel
theorem dX3_room_7 : decode cX3_room 7 = .ok (.ireturn, 1) := by decide +kernel
theorem dX3_byteAt_0 : decode cX3_byteAt 0 = .ok (.aload_n 0, 1) := by decide +kernel
theorem dX3_byteAt_1 : decode cX3_byteAt 1 = .ok (.getfield 9, 3) := by decide +kernel
theorem dX3_byteAt_4 : decode cX3_byteAt 4 = .ok (.iload_n 1, 1) := by decide +kernel
theorem dX3_byteAt_5 : decode cX3_byteAt 5 = .ok (.iaload, 1) := by decide +kernel
theorem dX3_byteAt_6 : decode cX3_byteAt 6 = .ok (.bipush 127, 2) := by decide +kernel
theorem dX3_byteAt_8 : decode cX3_byteAt 8 = .ok (.iand, 1) := by decide +kernel
theorem dX3_byteAt_9 : decode cX3_byteAt 9 = .ok (.ireturn, 1) := by decide +kernel
theorem dX3_markedAt_0 : decode cX3_markedAt 0 = .ok (.aload_n 0, 1) := by decide +kernel
theorem dX3_markedAt_1 : decode cX3_markedAt 1 = .ok (.getfield 9, 3) := by decide +kernel
theorem dX3_markedAt_4 : decode cX3_markedAt 4 = .ok (.iload_n 1, 1) := by decide +kernel
theorem dX3_markedAt_5 : decode cX3_markedAt 5 = .ok (.iaload, 1) := by decide +kernel
theorem dX3_markedAt_6 : decode cX3_markedAt 6 = .ok (.sipush 128, 3) := by decide +kernel
theorem dX3_markedAt_9 : decode cX3_markedAt 9 = .ok (.iand, 1) := by decide +kernel
theorem dX3_markedAt_10 : decode cX3_markedAt 10 = .ok (.ifCond .eq 7, 3) := by decide +kernel
theorem dX3_markedAt_13 : decode cX3_markedAt 13 = .ok (.iconst 1, 1) := by decide +kernel
theorem dX3_markedAt_14 : decode cX3_markedAt 14 = .ok (.goto 4, 3) := by decide +kernel
theorem dX3_markedAt_17 : decode cX3_markedAt 17 = .ok (.iconst 0, 1) := by decide +kernel
theorem dX3_markedAt_18 : decode cX3_markedAt 18 = .ok (.ireturn, 1) := by decide +kernel
theorem dX3_setByte_0 : decode cX3_setByte 0 = .ok (.aload_n 0, 1) := by decide +kernel
theorem dX3_setByte_1 : decode cX3_setByte 1 = .ok (.getfield 9, 3) := by decide +kernel
theorem dX3_setByte_4 : decode cX3_setByte 4 = .ok (.iload_n 1, 1) := by decide +kernel
theorem dX3_setByte_5 : decode cX3_setByte 5 = .ok (.iload_n 2, 1) := by decide +kernel
theorem dX3_setByte_6 : decode cX3_setByte 6 = .ok (.iastore, 1) := by decide +kernel
theorem dX3_setByte_7 : decode cX3_setByte 7 = .ok (.return_, 1) := by decide +kernel
theorem dX3_setMark_0 : decode cX3_setMark 0 = .ok (.aload_n 0, 1) := by decide +kernel
theorem dX3_setMark_1 : decode cX3_setMark 1 = .ok (.getfield 9, 3) := by decide +kernel
theorem dX3_setMark_4 : decode cX3_setMark 4 = .ok (.iload_n 1, 1) := by decide +kernel
theorem dX3_setMark_5 : decode cX3_setMark 5 = .ok (.iload_n 2, 1) := by decide +kernel
theorem dX3_setMark_6 : decode cX3_setMark 6 = .ok (.ifCond .eq 15, 3) := by decide +kernel
theorem dX3_setMark_9 : decode cX3_setMark 9 = .ok (.aload_n 0, 1) := by decide +kernel
theorem dX3_setMark_10 : decode cX3_setMark 10 = .ok (.iload_n 1, 1) := by decide +kernel
theorem dX3_setMark_11 : decode cX3_setMark 11 = .ok (.invokevirtual 23, 3) := by decide +kernel
theorem dX3_setMark_14 : decode cX3_setMark 14 = .ok (.sipush 128, 3) := by decide +kernel
theorem dX3_setMark_17 : decode cX3_setMark 17 = .ok (.ior, 1) := by decide +kernel
theorem dX3_setMark_18 : decode cX3_setMark 18 = .ok (.goto 8, 3) := by decide +kernel
theorem dX3_setMark_21 : decode cX3_setMark 21 = .ok (.aload_n 0, 1) := by decide +kernel
theorem dX3_setMark_22 : decode cX3_setMark 22 = .ok (.iload_n 1, 1) := by decide +kernel
theorem dX3_setMark_23 : decode cX3_setMark 23 = .ok (.invokevirtual 23, 3) := by decide +kernel
theorem dX3_setMark_26 : decode cX3_setMark 26 = .ok (.iastore, 1) := by decide +kernel
theorem dX3_setMark_27 : decode cX3_setMark 27 = .ok (.return_, 1) := by decide +kernel
theorem dX3_become_0 : decode cX3_become 0 = .ok (.aload_n 0, 1) := by decide +kernel
theorem dX3_become_1 : decode cX3_become 1 = .ok (.aload_n 1, 1) := by decide +kernel
theorem dX3_become_2 : decode cX3_become 2 = .ok (.getfield 15, 3) := by decide +kernel
theorem dX3_become_5 : decode cX3_become 5 = .ok (.putfield 15, 3) := by decide +kernel
theorem dX3_become_8 : decode cX3_become 8 = .ok (.aload_n 1, 1) := by decide +kernel
theorem dX3_become_9 : decode cX3_become 9 = .ok (.getfield 9, 3) := by decide +kernel
theorem dX3_become_12 : decode cX3_become 12 = .ok (.iconst 0, 1) := by decide +kernel
theorem dX3_become_13 : decode cX3_become 13 = .ok (.aload_n 0, 1) := by decide +kernel
theorem dX3_become_14 : decode cX3_become 14 = .ok (.getfield 9, 3) := by decide +kernel
theorem dX3_become_17 : decode cX3_become 17 = .ok (.iconst 0, 1) := by decide +kernel
theorem dX3_become_18 : decode cX3_become 18 = .ok (.aload_n 0, 1) := by decide +kernel
theorem dX3_become_19 : decode cX3_become 19 = .ok (.getfield 15, 3) := by decide +kernel
theorem dX3_become_22 : decode cX3_become 22 = .ok (.invokestatic 27, 3) := by decide +kernel
theorem dX3_become_25 : decode cX3_become 25 = .ok (.return_, 1) := by decide +kernel
theorem dX3_clear_0 : decode cX3_clear 0 = .ok (.aload_n 0, 1) := by decide +kernel
theorem dX3_clear_1 : decode cX3_clear 1 = .ok (.iconst 0, 1) := by decide +kernel
theorem dX3_clear_2 : decode cX3_clear 2 = .ok (.putfield 15, 3) := by decide +kernel
theorem dX3_clear_5 : decode cX3_clear 5 = .ok (.return_, 1) := by decide +kernel
theorem dX3_bringIn_0 : decode cX3_bringIn 0 = .ok (.aload_n 0, 1) := by decide +kernel
theorem dX3_bringIn_1 : decode cX3_bringIn 1 = .ok (.iload_n 1, 1) := by decide +kernel
theorem dX3_bringIn_2 : decode cX3_bringIn 2 = .ok (.iconst 1, 1) := by decide +kernel
theorem dX3_bringIn_3 : decode cX3_bringIn 3 = .ok (.invokevirtual 33, 3) := by decide +kernel
theorem dX3_bringIn_6 : decode cX3_bringIn 6 = .ok (.aload_n 0, 1) := by decide +kernel
theorem dX3_bringIn_7 : decode cX3_bringIn 7 = .ok (.getfield 9, 3) := by decide +kernel
theorem dX3_bringIn_10 : decode cX3_bringIn 10 = .ok (.iload_n 1, 1) := by decide +kernel
theorem dX3_bringIn_11 : decode cX3_bringIn 11 = .ok (.iload_n 2, 1) := by decide +kernel
theorem dX3_bringIn_12 : decode cX3_bringIn 12 = .ok (.iastore, 1) := by decide +kernel
theorem dX3_bringIn_13 : decode cX3_bringIn 13 = .ok (.return_, 1) := by decide +kernel
theorem dX3_takeOut_0 : decode cX3_takeOut 0 = .ok (.aload_n 0, 1) := by decide +kernel
theorem dX3_takeOut_1 : decode cX3_takeOut 1 = .ok (.getfield 9, 3) := by decide +kernel
theorem dX3_takeOut_4 : decode cX3_takeOut 4 = .ok (.iload_n 1, 1) := by decide +kernel
theorem dX3_takeOut_5 : decode cX3_takeOut 5 = .ok (.iload_n 2, 1) := by decide +kernel
theorem dX3_takeOut_6 : decode cX3_takeOut 6 = .ok (.iadd, 1) := by decide +kernel
theorem dX3_takeOut_7 : decode cX3_takeOut 7 = .ok (.aload_n 0, 1) := by decide +kernel
theorem dX3_takeOut_8 : decode cX3_takeOut 8 = .ok (.getfield 9, 3) := by decide +kernel
theorem dX3_takeOut_11 : decode cX3_takeOut 11 = .ok (.iload_n 1, 1) := by decide +kernel
theorem dX3_takeOut_12 : decode cX3_takeOut 12 = .ok (.aload_n 0, 1) := by decide +kernel
theorem dX3_takeOut_13 : decode cX3_takeOut 13 = .ok (.getfield 15, 3) := by decide +kernel
theorem dX3_takeOut_16 : decode cX3_takeOut 16 = .ok (.iload_n 1, 1) := by decide +kernel
theorem dX3_takeOut_17 : decode cX3_takeOut 17 = .ok (.isub, 1) := by decide +kernel
theorem dX3_takeOut_18 : decode cX3_takeOut 18 = .ok (.iload_n 2, 1) := by decide +kernel
theorem dX3_takeOut_19 : decode cX3_takeOut 19 = .ok (.isub, 1) := by decide +kernel
theorem dX3_takeOut_20 : decode cX3_takeOut 20 = .ok (.invokestatic 27, 3) := by decide +kernel
theorem dX3_takeOut_23 : decode cX3_takeOut 23 = .ok (.aload_n 0, 1) := by decide +kernel
theorem dX3_takeOut_24 : decode cX3_takeOut 24 = .ok (.dup, 1) := by decide +kernel
theorem dX3_takeOut_25 : decode cX3_takeOut 25 = .ok (.getfield 15, 3) := by decide +kernel
theorem dX3_takeOut_28 : decode cX3_takeOut 28 = .ok (.iload_n 2, 1) := by decide +kernel
theorem dX3_takeOut_29 : decode cX3_takeOut 29 = .ok (.isub, 1) := by decide +kernel
theorem dX3_takeOut_30 : decode cX3_takeOut 30 = .ok (.putfield 15, 3) := by decide +kernel
theorem dX3_takeOut_33 : decode cX3_takeOut 33 = .ok (.return_, 1) := by decide +kernel
theorem dX3_shift_0 : decode cX3_shift 0 = .ok (.iload_n 3, 1) := by decide +kernel
theorem dX3_shift_1 : decode cX3_shift 1 = .ok (.iload_n 1, 1) := by decide +kernel
theorem dX3_shift_2 : decode cX3_shift 2 = .ok (.if_icmp .gt 15, 3) := by decide +kernel
theorem dX3_shift_5 : decode cX3_shift 5 = .ok (.aload_n 0, 1) := by decide +kernel
theorem dX3_shift_6 : decode cX3_shift 6 = .ok (.iload_n 3, 1) := by decide +kernel
theorem dX3_shift_7 : decode cX3_shift 7 = .ok (.iload_n 1, 1) := by decide +kernel
theorem dX3_shift_8 : decode cX3_shift 8 = .ok (.iload_n 1, 1) := by decide +kernel
theorem dX3_shift_9 : decode cX3_shift 9 = .ok (.iload_n 2, 1) := by decide +kernel
theorem dX3_shift_10 : decode cX3_shift 10 = .ok (.iadd, 1) := by decide +kernel
theorem dX3_shift_11 : decode cX3_shift 11 = .ok (.invokevirtual 37, 3) := by decide +kernel
theorem dX3_shift_14 : decode cX3_shift 14 = .ok (.goto 12, 3) := by decide +kernel
theorem dX3_shift_17 : decode cX3_shift 17 = .ok (.aload_n 0, 1) := by decide +kernel
theorem dX3_shift_18 : decode cX3_shift 18 = .ok (.iload_n 1, 1) := by decide +kernel
theorem dX3_shift_19 : decode cX3_shift 19 = .ok (.iload_n 1, 1) := by decide +kernel
theorem dX3_shift_20 : decode cX3_shift 20 = .ok (.iload_n 2, 1) := by decide +kernel
theorem dX3_shift_21 : decode cX3_shift 21 = .ok (.iadd, 1) := by decide +kernel
theorem dX3_shift_22 : decode cX3_shift 22 = .ok (.iload_n 3, 1) := by decide +kernel
theorem dX3_shift_23 : decode cX3_shift 23 = .ok (.invokevirtual 37, 3) := by decide +kernel
theorem dX3_shift_26 : decode cX3_shift 26 = .ok (.return_, 1) := by decide +kernel
theorem dX3_repeat_0 : decode cX3_repeat 0 = .ok (.aload_n 0, 1) := by decide +kernel
theorem dX3_repeat_1 : decode cX3_repeat 1 = .ok (.iload_n 3, 1) := by decide +kernel
theorem dX3_repeat_2 : decode cX3_repeat 2 = .ok (.iload_n 2, 1) := by decide +kernel
theorem dX3_repeat_3 : decode cX3_repeat 3 = .ok (.invokevirtual 33, 3) := by decide +kernel
theorem dX3_repeat_6 : decode cX3_repeat 6 = .ok (.iconst 0, 1) := by decide +kernel
theorem dX3_repeat_7 : decode cX3_repeat 7 = .ok (.istore 4, 2) := by decide +kernel
theorem dX3_repeat_9 : decode cX3_repeat 9 = .ok (.iload 4, 2) := by decide +kernel
theorem dX3_repeat_11 : decode cX3_repeat 11 = .ok (.iload_n 2, 1) := by decide +kernel
theorem dX3_repeat_12 : decode cX3_repeat 12 = .ok (.if_icmp .ge 48, 3) := by decide +kernel
theorem dX3_repeat_15 : decode cX3_repeat 15 = .ok (.iload_n 1, 1) := by decide +kernel
theorem dX3_repeat_16 : decode cX3_repeat 16 = .ok (.iload 4, 2) := by decide +kernel
theorem dX3_repeat_18 : decode cX3_repeat 18 = .ok (.iadd, 1) := by decide +kernel
theorem dX3_repeat_19 : decode cX3_repeat 19 = .ok (.iload_n 3, 1) := by decide +kernel
theorem dX3_repeat_20 : decode cX3_repeat 20 = .ok (.if_icmp .ge 10, 3) := by decide +kernel
theorem dX3_repeat_23 : decode cX3_repeat 23 = .ok (.iload_n 1, 1) := by decide +kernel
theorem dX3_repeat_24 : decode cX3_repeat 24 = .ok (.iload 4, 2) := by decide +kernel
theorem dX3_repeat_26 : decode cX3_repeat 26 = .ok (.iadd, 1) := by decide +kernel
theorem dX3_repeat_27 : decode cX3_repeat 27 = .ok (.goto 9, 3) := by decide +kernel
theorem dX3_repeat_30 : decode cX3_repeat 30 = .ok (.iload_n 1, 1) := by decide +kernel
theorem dX3_repeat_31 : decode cX3_repeat 31 = .ok (.iload 4, 2) := by decide +kernel
theorem dX3_repeat_33 : decode cX3_repeat 33 = .ok (.iadd, 1) := by decide +kernel
theorem dX3_repeat_34 : decode cX3_repeat 34 = .ok (.iload_n 2, 1) := by decide +kernel
theorem dX3_repeat_35 : decode cX3_repeat 35 = .ok (.iadd, 1) := by decide +kernel
theorem dX3_repeat_36 : decode cX3_repeat 36 = .ok (.istore 5, 2) := by decide +kernel
theorem dX3_repeat_38 : decode cX3_repeat 38 = .ok (.aload_n 0, 1) := by decide +kernel
theorem dX3_repeat_39 : decode cX3_repeat 39 = .ok (.getfield 9, 3) := by decide +kernel
theorem dX3_repeat_42 : decode cX3_repeat 42 = .ok (.iload_n 3, 1) := by decide +kernel
theorem dX3_repeat_43 : decode cX3_repeat 43 = .ok (.iload 4, 2) := by decide +kernel
theorem dX3_repeat_45 : decode cX3_repeat 45 = .ok (.iadd, 1) := by decide +kernel
theorem dX3_repeat_46 : decode cX3_repeat 46 = .ok (.aload_n 0, 1) := by decide +kernel
theorem dX3_repeat_47 : decode cX3_repeat 47 = .ok (.getfield 9, 3) := by decide +kernel
theorem dX3_repeat_50 : decode cX3_repeat 50 = .ok (.iload 5, 2) := by decide +kernel
theorem dX3_repeat_52 : decode cX3_repeat 52 = .ok (.iaload, 1) := by decide +kernel
theorem dX3_repeat_53 : decode cX3_repeat 53 = .ok (.iastore, 1) := by decide +kernel
theorem dX3_repeat_54 : decode cX3_repeat 54 = .ok (.iinc 4 1, 3) := by decide +kernel
theorem dX3_repeat_57 : decode cX3_repeat 57 = .ok (.goto (-48), 3) := by decide +kernel
theorem dX3_repeat_60 : decode cX3_repeat 60 = .ok (.return_, 1) := by decide +kernel
theorem dX3_turnAbout_0 : decode cX3_turnAbout 0 = .ok (.aload_n 0, 1) := by decide +kernel
theorem dX3_turnAbout_1 : decode cX3_turnAbout 1 = .ok (.iload_n 1, 1) := by decide +kernel
theorem dX3_turnAbout_2 : decode cX3_turnAbout 2 = .ok (.iload_n 1, 1) := by decide +kernel
theorem dX3_turnAbout_3 : decode cX3_turnAbout 3 = .ok (.iload_n 2, 1) := by decide +kernel
theorem dX3_turnAbout_4 : decode cX3_turnAbout 4 = .ok (.iadd, 1) := by decide +kernel
theorem dX3_turnAbout_5 : decode cX3_turnAbout 5 = .ok (.invokevirtual 41, 3) := by decide +kernel
theorem dX3_turnAbout_8 : decode cX3_turnAbout 8 = .ok (.iconst 0, 1) := by decide +kernel
theorem dX3_turnAbout_9 : decode cX3_turnAbout 9 = .ok (.istore_n 3, 1) := by decide +kernel
theorem dX3_turnAbout_10 : decode cX3_turnAbout 10 = .ok (.iload_n 1, 1) := by decide +kernel
theorem dX3_turnAbout_11 : decode cX3_turnAbout 11 = .ok (.istore 4, 2) := by decide +kernel
theorem dX3_turnAbout_13 : decode cX3_turnAbout 13 = .ok (.iload 4, 2) := by decide +kernel
theorem dX3_turnAbout_15 : decode cX3_turnAbout 15 = .ok (.iload_n 1, 1) := by decide +kernel
theorem dX3_turnAbout_16 : decode cX3_turnAbout 16 = .ok (.iload_n 2, 1) := by decide +kernel
theorem dX3_turnAbout_17 : decode cX3_turnAbout 17 = .ok (.iadd, 1) := by decide +kernel
theorem dX3_turnAbout_18 : decode cX3_turnAbout 18 = .ok (.if_icmp .ge 39, 3) := by decide +kernel
theorem dX3_turnAbout_21 : decode cX3_turnAbout 21 = .ok (.aload_n 0, 1) := by decide +kernel
theorem dX3_turnAbout_22 : decode cX3_turnAbout 22 = .ok (.iload 4, 2) := by decide +kernel
theorem dX3_turnAbout_24 : decode cX3_turnAbout 24 = .ok (.invokevirtual 23, 3) := by decide +kernel
theorem dX3_turnAbout_27 : decode cX3_turnAbout 27 = .ok (.istore 5, 2) := by decide +kernel
theorem dX3_turnAbout_29 : decode cX3_turnAbout 29 = .ok (.iload_n 3, 1) := by decide +kernel
theorem dX3_turnAbout_30 : decode cX3_turnAbout 30 = .ok (.iload 5, 2) := by decide +kernel
theorem dX3_turnAbout_32 : decode cX3_turnAbout 32 = .ok (.invokestatic 44, 3) := by decide +kernel
theorem dX3_turnAbout_35 : decode cX3_turnAbout 35 = .ok (.invokestatic 49, 3) := by decide +kernel
theorem dX3_turnAbout_38 : decode cX3_turnAbout 38 = .ok (.iadd, 1) := by decide +kernel
theorem dX3_turnAbout_39 : decode cX3_turnAbout 39 = .ok (.istore_n 3, 1) := by decide +kernel
theorem dX3_turnAbout_40 : decode cX3_turnAbout 40 = .ok (.aload_n 0, 1) := by decide +kernel
theorem dX3_turnAbout_41 : decode cX3_turnAbout 41 = .ok (.iload 4, 2) := by decide +kernel
theorem dX3_turnAbout_43 : decode cX3_turnAbout 43 = .ok (.iload 5, 2) := by decide +kernel
theorem dX3_turnAbout_45 : decode cX3_turnAbout 45 = .ok (.invokestatic 53, 3) := by decide +kernel
theorem dX3_turnAbout_48 : decode cX3_turnAbout 48 = .ok (.invokevirtual 56, 3) := by decide +kernel
theorem dX3_turnAbout_51 : decode cX3_turnAbout 51 = .ok (.iinc 4 1, 3) := by decide +kernel
theorem dX3_turnAbout_54 : decode cX3_turnAbout 54 = .ok (.goto (-41), 3) := by decide +kernel
theorem dX3_turnAbout_57 : decode cX3_turnAbout 57 = .ok (.iload_n 3, 1) := by decide +kernel
theorem dX3_turnAbout_58 : decode cX3_turnAbout 58 = .ok (.ireturn, 1) := by decide +kernel
theorem dX3_openingSigns_0 : decode cX3_openingSigns 0 = .ok (.iconst 0, 1) := by decide +kernel
theorem dX3_openingSigns_1 : decode cX3_openingSigns 1 = .ok (.istore_n 1, 1) := by decide +kernel
theorem dX3_openingSigns_2 : decode cX3_openingSigns 2 = .ok (.iconst 0, 1) := by decide +kernel
theorem dX3_openingSigns_3 : decode cX3_openingSigns 3 = .ok (.istore_n 2, 1) := by decide +kernel
theorem dX3_openingSigns_4 : decode cX3_openingSigns 4 = .ok (.iload_n 2, 1) := by decide +kernel
theorem dX3_openingSigns_5 : decode cX3_openingSigns 5 = .ok (.aload_n 0, 1) := by decide +kernel
theorem dX3_openingSigns_6 : decode cX3_openingSigns 6 = .ok (.getfield 15, 3) := by decide +kernel
theorem dX3_openingSigns_9 : decode cX3_openingSigns 9 = .ok (.if_icmp .ge 23, 3) := by decide +kernel
theorem dX3_openingSigns_12 : decode cX3_openingSigns 12 = .ok (.iload_n 1, 1) := by decide +kernel
theorem dX3_openingSigns_13 : decode cX3_openingSigns 13 = .ok (.aload_n 0, 1) := by decide +kernel
theorem dX3_openingSigns_14 : decode cX3_openingSigns 14 = .ok (.iload_n 2, 1) := by decide +kernel
theorem dX3_openingSigns_15 : decode cX3_openingSigns 15 = .ok (.invokevirtual 23, 3) := by decide +kernel
theorem dX3_openingSigns_18 : decode cX3_openingSigns 18 = .ok (.invokestatic 59, 3) := by decide +kernel
theorem dX3_openingSigns_21 : decode cX3_openingSigns 21 = .ok (.invokestatic 49, 3) := by decide +kernel
theorem dX3_openingSigns_24 : decode cX3_openingSigns 24 = .ok (.iadd, 1) := by decide +kernel
theorem dX3_openingSigns_25 : decode cX3_openingSigns 25 = .ok (.istore_n 1, 1) := by decide +kernel
theorem dX3_openingSigns_26 : decode cX3_openingSigns 26 = .ok (.iinc 2 1, 3) := by decide +kernel
theorem dX3_openingSigns_29 : decode cX3_openingSigns 29 = .ok (.goto (-25), 3) := by decide +kernel
theorem dX3_openingSigns_32 : decode cX3_openingSigns 32 = .ok (.iload_n 1, 1) := by decide +kernel
theorem dX3_openingSigns_33 : decode cX3_openingSigns 33 = .ok (.ireturn, 1) := by decide +kernel
theorem dX3_closingSigns_0 : decode cX3_closingSigns 0 = .ok (.iconst 0, 1) := by decide +kernel
theorem dX3_closingSigns_1 : decode cX3_closingSigns 1 = .ok (.istore_n 1, 1) := by decide +kernel
theorem dX3_closingSigns_2 : decode cX3_closingSigns 2 = .ok (.iconst 0, 1) := by decide +kernel
theorem dX3_closingSigns_3 : decode cX3_closingSigns 3 = .ok (.istore_n 2, 1) := by decide +kernel
theorem dX3_closingSigns_4 : decode cX3_closingSigns 4 = .ok (.iload_n 2, 1) := by decide +kernel
theorem dX3_closingSigns_5 : decode cX3_closingSigns 5 = .ok (.aload_n 0, 1) := by decide +kernel
theorem dX3_closingSigns_6 : decode cX3_closingSigns 6 = .ok (.getfield 15, 3) := by decide +kernel
theorem dX3_closingSigns_9 : decode cX3_closingSigns 9 = .ok (.if_icmp .ge 23, 3) := by decide +kernel
theorem dX3_closingSigns_12 : decode cX3_closingSigns 12 = .ok (.iload_n 1, 1) := by decide +kernel
theorem dX3_closingSigns_13 : decode cX3_closingSigns 13 = .ok (.aload_n 0, 1) := by decide +kernel
theorem dX3_closingSigns_14 : decode cX3_closingSigns 14 = .ok (.iload_n 2, 1) := by decide +kernel
theorem dX3_closingSigns_15 : decode cX3_closingSigns 15 = .ok (.invokevirtual 23, 3) := by decide +kernel
theorem dX3_closingSigns_18 : decode cX3_closingSigns 18 = .ok (.invokestatic 62, 3) := by decide +kernel
theorem dX3_closingSigns_21 : decode cX3_closingSigns 21 = .ok (.invokestatic 49, 3) := by decide +kernel
theorem dX3_closingSigns_24 : decode cX3_closingSigns 24 = .ok (.iadd, 1) := by decide +kernel
theorem dX3_closingSigns_25 : decode cX3_closingSigns 25 = .ok (.istore_n 1, 1) := by decide +kernel
theorem dX3_closingSigns_26 : decode cX3_closingSigns 26 = .ok (.iinc 2 1, 3) := by decide +kernel
theorem dX3_closingSigns_29 : decode cX3_closingSigns 29 = .ok (.goto (-25), 3) := by decide +kernel
theorem dX3_closingSigns_32 : decode cX3_closingSigns 32 = .ok (.iload_n 1, 1) := by decide +kernel
theorem dX3_closingSigns_33 : decode cX3_closingSigns 33 = .ok (.ireturn, 1) := by decide +kernel
theorem dX3_openGap_0 : decode cX3_openGap 0 = .ok (.aload_n 0, 1) := by decide +kernel
theorem dX3_openGap_1 : decode cX3_openGap 1 = .ok (.getfield 9, 3) := by decide +kernel
theorem dX3_openGap_4 : decode cX3_openGap 4 = .ok (.iload_n 1, 1) := by decide +kernel
theorem dX3_openGap_5 : decode cX3_openGap 5 = .ok (.aload_n 0, 1) := by decide +kernel
theorem dX3_openGap_6 : decode cX3_openGap 6 = .ok (.getfield 9, 3) := by decide +kernel
theorem dX3_openGap_9 : decode cX3_openGap 9 = .ok (.iload_n 1, 1) := by decide +kernel
theorem dX3_openGap_10 : decode cX3_openGap 10 = .ok (.iload_n 2, 1) := by decide +kernel
theorem dX3_openGap_11 : decode cX3_openGap 11 = .ok (.iadd, 1) := by decide +kernel
theorem dX3_openGap_12 : decode cX3_openGap 12 = .ok (.aload_n 0, 1) := by decide +kernel
theorem dX3_openGap_13 : decode cX3_openGap 13 = .ok (.getfield 15, 3) := by decide +kernel
theorem dX3_openGap_16 : decode cX3_openGap 16 = .ok (.iload_n 1, 1) := by decide +kernel
theorem dX3_openGap_17 : decode cX3_openGap 17 = .ok (.isub, 1) := by decide +kernel
theorem dX3_openGap_18 : decode cX3_openGap 18 = .ok (.invokestatic 27, 3) := by decide +kernel
theorem dX3_openGap_21 : decode cX3_openGap 21 = .ok (.aload_n 0, 1) := by decide +kernel
theorem dX3_openGap_22 : decode cX3_openGap 22 = .ok (.dup, 1) := by decide +kernel
theorem dX3_openGap_23 : decode cX3_openGap 23 = .ok (.getfield 15, 3) := by decide +kernel
theorem dX3_openGap_26 : decode cX3_openGap 26 = .ok (.iload_n 2, 1) := by decide +kernel
theorem dX3_openGap_27 : decode cX3_openGap 27 = .ok (.iadd, 1) := by decide +kernel
theorem dX3_openGap_28 : decode cX3_openGap 28 = .ok (.putfield 15, 3) := by decide +kernel
theorem dX3_openGap_31 : decode cX3_openGap 31 = .ok (.return_, 1) := by decide +kernel
theorem dX3_swapParts_0 : decode cX3_swapParts 0 = .ok (.aload_n 0, 1) := by decide +kernel
theorem dX3_swapParts_1 : decode cX3_swapParts 1 = .ok (.iload_n 1, 1) := by decide +kernel
theorem dX3_swapParts_2 : decode cX3_swapParts 2 = .ok (.iload_n 2, 1) := by decide +kernel
theorem dX3_swapParts_3 : decode cX3_swapParts 3 = .ok (.invokevirtual 41, 3) := by decide +kernel
theorem dX3_swapParts_6 : decode cX3_swapParts 6 = .ok (.aload_n 0, 1) := by decide +kernel
theorem dX3_swapParts_7 : decode cX3_swapParts 7 = .ok (.iload_n 2, 1) := by decide +kernel
theorem dX3_swapParts_8 : decode cX3_swapParts 8 = .ok (.iload_n 3, 1) := by decide +kernel
theorem dX3_swapParts_9 : decode cX3_swapParts 9 = .ok (.invokevirtual 41, 3) := by decide +kernel
theorem dX3_swapParts_12 : decode cX3_swapParts 12 = .ok (.aload_n 0, 1) := by decide +kernel
theorem dX3_swapParts_13 : decode cX3_swapParts 13 = .ok (.iload_n 1, 1) := by decide +kernel
theorem dX3_swapParts_14 : decode cX3_swapParts 14 = .ok (.iload_n 3, 1) := by decide +kernel
theorem dX3_swapParts_15 : decode cX3_swapParts 15 = .ok (.invokevirtual 41, 3) := by decide +kernel
theorem dX3_swapParts_18 : decode cX3_swapParts 18 = .ok (.return_, 1) := by decide +kernel
theorem dX3_reverse_0 : decode cX3_reverse 0 = .ok (.iload_n 2, 1) := by decide +kernel
theorem dX3_reverse_1 : decode cX3_reverse 1 = .ok (.iconst 1, 1) := by decide +kernel
theorem dX3_reverse_2 : decode cX3_reverse 2 = .ok (.isub, 1) := by decide +kernel
theorem dX3_reverse_3 : decode cX3_reverse 3 = .ok (.istore_n 3, 1) := by decide +kernel
theorem dX3_reverse_4 : decode cX3_reverse 4 = .ok (.iload_n 1, 1) := by decide +kernel
theorem dX3_reverse_5 : decode cX3_reverse 5 = .ok (.istore 4, 2) := by decide +kernel
theorem dX3_reverse_7 : decode cX3_reverse 7 = .ok (.iload 4, 2) := by decide +kernel
theorem dX3_reverse_9 : decode cX3_reverse 9 = .ok (.iload_n 3, 1) := by decide +kernel
theorem dX3_reverse_10 : decode cX3_reverse 10 = .ok (.if_icmp .ge 42, 3) := by decide +kernel
theorem dX3_reverse_13 : decode cX3_reverse 13 = .ok (.aload_n 0, 1) := by decide +kernel
theorem dX3_reverse_14 : decode cX3_reverse 14 = .ok (.getfield 9, 3) := by decide +kernel
theorem dX3_reverse_17 : decode cX3_reverse 17 = .ok (.iload 4, 2) := by decide +kernel
theorem dX3_reverse_19 : decode cX3_reverse 19 = .ok (.iaload, 1) := by decide +kernel
theorem dX3_reverse_20 : decode cX3_reverse 20 = .ok (.istore 5, 2) := by decide +kernel
theorem dX3_reverse_22 : decode cX3_reverse 22 = .ok (.aload_n 0, 1) := by decide +kernel
theorem dX3_reverse_23 : decode cX3_reverse 23 = .ok (.getfield 9, 3) := by decide +kernel
theorem dX3_reverse_26 : decode cX3_reverse 26 = .ok (.iload 4, 2) := by decide +kernel
theorem dX3_reverse_28 : decode cX3_reverse 28 = .ok (.aload_n 0, 1) := by decide +kernel
theorem dX3_reverse_29 : decode cX3_reverse 29 = .ok (.getfield 9, 3) := by decide +kernel
theorem dX3_reverse_32 : decode cX3_reverse 32 = .ok (.iload_n 3, 1) := by decide +kernel
theorem dX3_reverse_33 : decode cX3_reverse 33 = .ok (.iaload, 1) := by decide +kernel
theorem dX3_reverse_34 : decode cX3_reverse 34 = .ok (.iastore, 1) := by decide +kernel
theorem dX3_reverse_35 : decode cX3_reverse 35 = .ok (.aload_n 0, 1) := by decide +kernel
theorem dX3_reverse_36 : decode cX3_reverse 36 = .ok (.getfield 9, 3) := by decide +kernel
theorem dX3_reverse_39 : decode cX3_reverse 39 = .ok (.iload_n 3, 1) := by decide +kernel
theorem dX3_reverse_40 : decode cX3_reverse 40 = .ok (.iload 5, 2) := by decide +kernel
theorem dX3_reverse_42 : decode cX3_reverse 42 = .ok (.iastore, 1) := by decide +kernel
theorem dX3_reverse_43 : decode cX3_reverse 43 = .ok (.iinc 3 (-1), 3) := by decide +kernel
theorem dX3_reverse_46 : decode cX3_reverse 46 = .ok (.iinc 4 1, 3) := by decide +kernel
theorem dX3_reverse_49 : decode cX3_reverse 49 = .ok (.goto (-42), 3) := by decide +kernel
theorem dX3_reverse_52 : decode cX3_reverse 52 = .ok (.return_, 1) := by decide +kernel
theorem dX4_init_0 : decode cX4_init 0 = .ok (.aload_n 0, 1) := by decide +kernel
theorem dX4_init_1 : decode cX4_init 1 = .ok (.invokespecial 3, 3) := by decide +kernel
theorem dX4_init_4 : decode cX4_init 4 = .ok (.aload_n 0, 1) := by decide +kernel
theorem dX4_init_5 : decode cX4_init 5 = .ok (.bipush 40, 2) := by decide +kernel
theorem dX4_init_7 : decode cX4_init 7 = .ok (.newarray .int, 2) := by decide +kernel
theorem dX4_init_9 : decode cX4_init 9 = .ok (.putfield 9, 3) := by decide +kernel
theorem dX4_init_12 : decode cX4_init 12 = .ok (.return_, 1) := by decide +kernel
theorem dX4_makeNew_0 : decode cX4_makeNew 0 = .ok (.aload_n 0, 1) := by decide +kernel
theorem dX4_makeNew_1 : decode cX4_makeNew 1 = .ok (.iconst 1, 1) := by decide +kernel
theorem dX4_makeNew_2 : decode cX4_makeNew 2 = .ok (.putfield 15, 3) := by decide +kernel
theorem dX4_makeNew_5 : decode cX4_makeNew 5 = .ok (.aload_n 0, 1) := by decide +kernel
theorem dX4_makeNew_6 : decode cX4_makeNew 6 = .ok (.iload_n 1, 1) := by decide +kernel
theorem dX4_makeNew_7 : decode cX4_makeNew 7 = .ok (.putfield 19, 3) := by decide +kernel
theorem dX4_makeNew_10 : decode cX4_makeNew 10 = .ok (.aload_n 0, 1) := by decide +kernel
theorem dX4_makeNew_11 : decode cX4_makeNew 11 = .ok (.iload_n 2, 1) := by decide +kernel
theorem dX4_makeNew_12 : decode cX4_makeNew 12 = .ok (.putfield 23, 3) := by decide +kernel
theorem dX4_makeNew_15 : decode cX4_makeNew 15 = .ok (.iconst 0, 1) := by decide +kernel
theorem dX4_makeNew_16 : decode cX4_makeNew 16 = .ok (.istore_n 3, 1) := by decide +kernel
theorem dX4_makeNew_17 : decode cX4_makeNew 17 = .ok (.iload_n 3, 1) := by decide +kernel
theorem dX4_makeNew_18 : decode cX4_makeNew 18 = .ok (.iload_n 2, 1) := by decide +kernel
theorem dX4_makeNew_19 : decode cX4_makeNew 19 = .ok (.if_icmp .ge 16, 3) := by decide +kernel
theorem dX4_makeNew_22 : decode cX4_makeNew 22 = .ok (.aload_n 0, 1) := by decide +kernel
theorem dX4_makeNew_23 : decode cX4_makeNew 23 = .ok (.getfield 9, 3) := by decide +kernel
theorem dX4_makeNew_26 : decode cX4_makeNew 26 = .ok (.iload_n 3, 1) := by decide +kernel
theorem dX4_makeNew_27 : decode cX4_makeNew 27 = .ok (.iconst 0, 1) := by decide +kernel
theorem dX4_makeNew_28 : decode cX4_makeNew 28 = .ok (.iastore, 1) := by decide +kernel
theorem dX4_makeNew_29 : decode cX4_makeNew 29 = .ok (.iinc 3 1, 3) := by decide +kernel
theorem dX4_makeNew_32 : decode cX4_makeNew 32 = .ok (.goto (-15), 3) := by decide +kernel
theorem dX4_makeNew_35 : decode cX4_makeNew 35 = .ok (.return_, 1) := by decide +kernel
theorem dX4_faultAt_0 : decode cX4_faultAt 0 = .ok (.aload_n 0, 1) := by decide +kernel
theorem dX4_faultAt_1 : decode cX4_faultAt 1 = .ok (.getfield 15, 3) := by decide +kernel
theorem dX4_faultAt_4 : decode cX4_faultAt 4 = .ok (.ifCond .ne 5, 3) := by decide +kernel
theorem dX4_faultAt_7 : decode cX4_faultAt 7 = .ok (.iconst 1, 1) := by decide +kernel
theorem dX4_faultAt_8 : decode cX4_faultAt 8 = .ok (.ireturn, 1) := by decide +kernel
theorem dX4_faultAt_9 : decode cX4_faultAt 9 = .ok (.iload_n 1, 1) := by decide +kernel
theorem dX4_faultAt_10 : decode cX4_faultAt 10 = .ok (.aload_n 0, 1) := by decide +kernel
theorem dX4_faultAt_11 : decode cX4_faultAt 11 = .ok (.getfield 19, 3) := by decide +kernel
theorem dX4_faultAt_14 : decode cX4_faultAt 14 = .ok (.if_icmp .eq 5, 3) := by decide +kernel
theorem dX4_faultAt_17 : decode cX4_faultAt 17 = .ok (.iconst 3, 1) := by decide +kernel
theorem dX4_faultAt_18 : decode cX4_faultAt 18 = .ok (.ireturn, 1) := by decide +kernel
theorem dX4_faultAt_19 : decode cX4_faultAt 19 = .ok (.iload_n 2, 1) := by decide +kernel
theorem dX4_faultAt_20 : decode cX4_faultAt 20 = .ok (.ifCond .lt 11, 3) := by decide +kernel
theorem dX4_faultAt_23 : decode cX4_faultAt 23 = .ok (.iload_n 2, 1) := by decide +kernel
theorem dX4_faultAt_24 : decode cX4_faultAt 24 = .ok (.aload_n 0, 1) := by decide +kernel
theorem dX4_faultAt_25 : decode cX4_faultAt 25 = .ok (.getfield 23, 3) := by decide +kernel
theorem dX4_faultAt_28 : decode cX4_faultAt 28 = .ok (.if_icmp .lt 7, 3) := by decide +kernel
theorem dX4_faultAt_31 : decode cX4_faultAt 31 = .ok (.iconst 2, 1) := by decide +kernel
theorem dX4_faultAt_32 : decode cX4_faultAt 32 = .ok (.goto 4, 3) := by decide +kernel
theorem dX4_faultAt_35 : decode cX4_faultAt 35 = .ok (.iconst 0, 1) := by decide +kernel
theorem dX4_faultAt_36 : decode cX4_faultAt 36 = .ok (.ireturn, 1) := by decide +kernel
theorem dX4_setCell_0 : decode cX4_setCell 0 = .ok (.aload_n 0, 1) := by decide +kernel
theorem dX4_setCell_1 : decode cX4_setCell 1 = .ok (.getfield 19, 3) := by decide +kernel
theorem dX4_setCell_4 : decode cX4_setCell 4 = .ok (.lookupswitch 50 #[(0, 28), (1, 39)], 28) := by decide +kernel
theorem dX4_setCell_32 : decode cX4_setCell 32 = .ok (.aload_n 0, 1) := by decide +kernel
theorem dX4_setCell_33 : decode cX4_setCell 33 = .ok (.getfield 9, 3) := by decide +kernel
theorem dX4_setCell_36 : decode cX4_setCell 36 = .ok (.iload_n 1, 1) := by decide +kernel
theorem dX4_setCell_37 : decode cX4_setCell 37 = .ok (.iload_n 2, 1) := by decide +kernel
theorem dX4_setCell_38 : decode cX4_setCell 38 = .ok (.i2b, 1) := by decide +kernel
theorem dX4_setCell_39 : decode cX4_setCell 39 = .ok (.iastore, 1) := by decide +kernel
theorem dX4_setCell_40 : decode cX4_setCell 40 = .ok (.goto 21, 3) := by decide +kernel
theorem dX4_setCell_43 : decode cX4_setCell 43 = .ok (.aload_n 0, 1) := by decide +kernel
theorem dX4_setCell_44 : decode cX4_setCell 44 = .ok (.getfield 9, 3) := by decide +kernel
theorem dX4_setCell_47 : decode cX4_setCell 47 = .ok (.iload_n 1, 1) := by decide +kernel
theorem dX4_setCell_48 : decode cX4_setCell 48 = .ok (.iload_n 2, 1) := by decide +kernel
theorem dX4_setCell_49 : decode cX4_setCell 49 = .ok (.i2s, 1) := by decide +kernel
theorem dX4_setCell_50 : decode cX4_setCell 50 = .ok (.iastore, 1) := by decide +kernel
theorem dX4_setCell_51 : decode cX4_setCell 51 = .ok (.goto 10, 3) := by decide +kernel
theorem dX4_setCell_54 : decode cX4_setCell 54 = .ok (.aload_n 0, 1) := by decide +kernel
theorem dX4_setCell_55 : decode cX4_setCell 55 = .ok (.getfield 9, 3) := by decide +kernel
theorem dX4_setCell_58 : decode cX4_setCell 58 = .ok (.iload_n 1, 1) := by decide +kernel
theorem dX4_setCell_59 : decode cX4_setCell 59 = .ok (.iload_n 2, 1) := by decide +kernel
theorem dX4_setCell_60 : decode cX4_setCell 60 = .ok (.iastore, 1) := by decide +kernel
theorem dX4_setCell_61 : decode cX4_setCell 61 = .ok (.return_, 1) := by decide +kernel
theorem dX5_isSign_0 : decode cX5_isSign 0 = .ok (.iload_n 0, 1) := by decide +kernel
theorem dX5_isSign_1 : decode cX5_isSign 1 = .ok (.invokestatic 9, 3) := by decide +kernel
theorem dX5_isSign_4 : decode cX5_isSign 4 = .ok (.ifCond .ne 16, 3) := by decide +kernel
theorem dX5_isSign_7 : decode cX5_isSign 7 = .ok (.iload_n 0, 1) := by decide +kernel
theorem dX5_isSign_8 : decode cX5_isSign 8 = .ok (.invokestatic 15, 3) := by decide +kernel
theorem dX5_isSign_11 : decode cX5_isSign 11 = .ok (.ifCond .ne 9, 3) := by decide +kernel
theorem dX5_isSign_14 : decode cX5_isSign 14 = .ok (.iload_n 0, 1) := by decide +kernel
theorem dX5_isSign_15 : decode cX5_isSign 15 = .ok (.bipush 47, 2) := by decide +kernel
theorem dX5_isSign_17 : decode cX5_isSign 17 = .ok (.if_icmp .ne 7, 3) := by decide +kernel
theorem dX5_isSign_20 : decode cX5_isSign 20 = .ok (.iconst 1, 1) := by decide +kernel
theorem dX5_isSign_21 : decode cX5_isSign 21 = .ok (.goto 4, 3) := by decide +kernel
theorem dX5_isSign_24 : decode cX5_isSign 24 = .ok (.iconst 0, 1) := by decide +kernel
theorem dX5_isSign_25 : decode cX5_isSign 25 = .ok (.ireturn, 1) := by decide +kernel
theorem dX5_isLetter_0 : decode cX5_isLetter 0 = .ok (.iload_n 0, 1) := by decide +kernel
theorem dX5_isLetter_1 : decode cX5_isLetter 1 = .ok (.bipush 97, 2) := by decide +kernel
theorem dX5_isLetter_3 : decode cX5_isLetter 3 = .ok (.if_icmp .lt 13, 3) := by decide +kernel
theorem dX5_isLetter_6 : decode cX5_isLetter 6 = .ok (.iload_n 0, 1) := by decide +kernel
theorem dX5_isLetter_7 : decode cX5_isLetter 7 = .ok (.bipush 122, 2) := by decide +kernel
theorem dX5_isLetter_9 : decode cX5_isLetter 9 = .ok (.if_icmp .gt 7, 3) := by decide +kernel
theorem dX5_isLetter_12 : decode cX5_isLetter 12 = .ok (.iconst 1, 1) := by decide +kernel
theorem dX5_isLetter_13 : decode cX5_isLetter 13 = .ok (.goto 4, 3) := by decide +kernel
theorem dX5_isLetter_16 : decode cX5_isLetter 16 = .ok (.iconst 0, 1) := by decide +kernel
theorem dX5_isLetter_17 : decode cX5_isLetter 17 = .ok (.ireturn, 1) := by decide +kernel
theorem dX5_isBracket_0 : decode cX5_isBracket 0 = .ok (.iload_n 0, 1) := by decide +kernel
theorem dX5_isBracket_1 : decode cX5_isBracket 1 = .ok (.invokestatic 18, 3) := by decide +kernel
theorem dX5_isBracket_4 : decode cX5_isBracket 4 = .ok (.ifCond .ne 10, 3) := by decide +kernel
theorem dX5_isBracket_7 : decode cX5_isBracket 7 = .ok (.iload_n 0, 1) := by decide +kernel
theorem dX5_isBracket_8 : decode cX5_isBracket 8 = .ok (.invokestatic 21, 3) := by decide +kernel
theorem dX5_isBracket_11 : decode cX5_isBracket 11 = .ok (.ifCond .eq 7, 3) := by decide +kernel
theorem dX5_isBracket_14 : decode cX5_isBracket 14 = .ok (.iconst 1, 1) := by decide +kernel
theorem dX5_isBracket_15 : decode cX5_isBracket 15 = .ok (.goto 4, 3) := by decide +kernel
theorem dX5_isBracket_18 : decode cX5_isBracket 18 = .ok (.iconst 0, 1) := by decide +kernel
theorem dX5_isBracket_19 : decode cX5_isBracket 19 = .ok (.ireturn, 1) := by decide +kernel
theorem dX5_opens_0 : decode cX5_opens 0 = .ok (.iload_n 0, 1) := by decide +kernel
theorem dX5_opens_1 : decode cX5_opens 1 = .ok (.bipush 40, 2) := by decide +kernel
theorem dX5_opens_3 : decode cX5_opens 3 = .ok (.if_icmp .eq 15, 3) := by decide +kernel
theorem dX5_opens_6 : decode cX5_opens 6 = .ok (.iload_n 0, 1) := by decide +kernel
theorem dX5_opens_7 : decode cX5_opens 7 = .ok (.bipush 91, 2) := by decide +kernel
theorem dX5_opens_9 : decode cX5_opens 9 = .ok (.if_icmp .eq 9, 3) := by decide +kernel
theorem dX5_opens_12 : decode cX5_opens 12 = .ok (.iload_n 0, 1) := by decide +kernel
theorem dX5_opens_13 : decode cX5_opens 13 = .ok (.bipush 123, 2) := by decide +kernel
theorem dX5_opens_15 : decode cX5_opens 15 = .ok (.if_icmp .ne 7, 3) := by decide +kernel
theorem dX5_opens_18 : decode cX5_opens 18 = .ok (.iconst 1, 1) := by decide +kernel
theorem dX5_opens_19 : decode cX5_opens 19 = .ok (.goto 4, 3) := by decide +kernel
theorem dX5_opens_22 : decode cX5_opens 22 = .ok (.iconst 0, 1) := by decide +kernel
theorem dX5_opens_23 : decode cX5_opens 23 = .ok (.ireturn, 1) := by decide +kernel
theorem dX5_closes_0 : decode cX5_closes 0 = .ok (.iload_n 0, 1) := by decide +kernel
theorem dX5_closes_1 : decode cX5_closes 1 = .ok (.bipush 41, 2) := by decide +kernel
theorem dX5_closes_3 : decode cX5_closes 3 = .ok (.if_icmp .eq 15, 3) := by decide +kernel
theorem dX5_closes_6 : decode cX5_closes 6 = .ok (.iload_n 0, 1) := by decide +kernel
theorem dX5_closes_7 : decode cX5_closes 7 = .ok (.bipush 93, 2) := by decide +kernel
theorem dX5_closes_9 : decode cX5_closes 9 = .ok (.if_icmp .eq 9, 3) := by decide +kernel
theorem dX5_closes_12 : decode cX5_closes 12 = .ok (.iload_n 0, 1) := by decide +kernel
theorem dX5_closes_13 : decode cX5_closes 13 = .ok (.bipush 125, 2) := by decide +kernel
theorem dX5_closes_15 : decode cX5_closes 15 = .ok (.if_icmp .ne 7, 3) := by decide +kernel
theorem dX5_closes_18 : decode cX5_closes 18 = .ok (.iconst 1, 1) := by decide +kernel
theorem dX5_closes_19 : decode cX5_closes 19 = .ok (.goto 4, 3) := by decide +kernel
theorem dX5_closes_22 : decode cX5_closes 22 = .ok (.iconst 0, 1) := by decide +kernel
theorem dX5_closes_23 : decode cX5_closes 23 = .ok (.ireturn, 1) := by decide +kernel
theorem dX5_kindOf_0 : decode cX5_kindOf 0 = .ok (.iload_n 0, 1) := by decide +kernel
theorem dX5_kindOf_1 : decode cX5_kindOf 1 = .ok (.lookupswitch 65 #[(40, 59), (41, 59), (91, 61), (93, 61), (123, 63), (125, 63)], 59) := by decide +kernel
theorem dX5_kindOf_60 : decode cX5_kindOf 60 = .ok (.iconst 0, 1) := by decide +kernel
theorem dX5_kindOf_61 : decode cX5_kindOf 61 = .ok (.ireturn, 1) := by decide +kernel
theorem dX5_kindOf_62 : decode cX5_kindOf 62 = .ok (.iconst 1, 1) := by decide +kernel
theorem dX5_kindOf_63 : decode cX5_kindOf 63 = .ok (.ireturn, 1) := by decide +kernel
theorem dX5_kindOf_64 : decode cX5_kindOf 64 = .ok (.iconst 2, 1) := by decide +kernel
theorem dX5_kindOf_65 : decode cX5_kindOf 65 = .ok (.ireturn, 1) := by decide +kernel
theorem dX5_kindOf_66 : decode cX5_kindOf 66 = .ok (.bipush (-4), 2) := by decide +kernel
theorem dX5_kindOf_68 : decode cX5_kindOf 68 = .ok (.ireturn, 1) := by decide +kernel
theorem dX5_turned_0 : decode cX5_turned 0 = .ok (.iload_n 0, 1) := by decide +kernel
theorem dX5_turned_1 : decode cX5_turned 1 = .ok (.lookupswitch 77 #[(40, 59), (41, 62), (91, 65), (93, 68), (123, 71), (125, 74)], 59) := by decide +kernel
theorem dX5_turned_60 : decode cX5_turned 60 = .ok (.bipush 41, 2) := by decide +kernel
theorem dX5_turned_62 : decode cX5_turned 62 = .ok (.ireturn, 1) := by decide +kernel
theorem dX5_turned_63 : decode cX5_turned 63 = .ok (.bipush 40, 2) := by decide +kernel
theorem dX5_turned_65 : decode cX5_turned 65 = .ok (.ireturn, 1) := by decide +kernel
theorem dX5_turned_66 : decode cX5_turned 66 = .ok (.bipush 93, 2) := by decide +kernel
theorem dX5_turned_68 : decode cX5_turned 68 = .ok (.ireturn, 1) := by decide +kernel
theorem dX5_turned_69 : decode cX5_turned 69 = .ok (.bipush 91, 2) := by decide +kernel
theorem dX5_turned_71 : decode cX5_turned 71 = .ok (.ireturn, 1) := by decide +kernel
theorem dX5_turned_72 : decode cX5_turned 72 = .ok (.bipush 125, 2) := by decide +kernel
theorem dX5_turned_74 : decode cX5_turned 74 = .ok (.ireturn, 1) := by decide +kernel
theorem dX5_turned_75 : decode cX5_turned 75 = .ok (.bipush 123, 2) := by decide +kernel
theorem dX5_turned_77 : decode cX5_turned 77 = .ok (.ireturn, 1) := by decide +kernel
theorem dX5_turned_78 : decode cX5_turned 78 = .ok (.iload_n 0, 1) := by decide +kernel
theorem dX5_turned_79 : decode cX5_turned 79 = .ok (.ireturn, 1) := by decide +kernel
theorem dX6_init_0 : decode cX6_init 0 = .ok (.aload_n 0, 1) := by decide +kernel
theorem dX6_init_1 : decode cX6_init 1 = .ok (.invokespecial 3, 3) := by decide +kernel
theorem dX6_init_4 : decode cX6_init 4 = .ok (.aload_n 0, 1) := by decide +kernel
theorem dX6_init_5 : decode cX6_init 5 = .ok (.sipush 160, 3) := by decide +kernel
theorem dX6_init_8 : decode cX6_init 8 = .ok (.newarray .int, 2) := by decide +kernel
theorem dX6_init_10 : decode cX6_init 10 = .ok (.putfield 9, 3) := by decide +kernel
theorem dX6_init_13 : decode cX6_init 13 = .ok (.return_, 1) := by decide +kernel
theorem dX6_append_0 : decode cX6_append 0 = .ok (.aload_n 0, 1) := by decide +kernel
theorem dX6_append_1 : decode cX6_append 1 = .ok (.getfield 9, 3) := by decide +kernel
theorem dX6_append_4 : decode cX6_append 4 = .ok (.aload_n 0, 1) := by decide +kernel
theorem dX6_append_5 : decode cX6_append 5 = .ok (.getfield 15, 3) := by decide +kernel
theorem dX6_append_8 : decode cX6_append 8 = .ok (.iload_n 1, 1) := by decide +kernel
theorem dX6_append_9 : decode cX6_append 9 = .ok (.iastore, 1) := by decide +kernel
theorem dX6_append_10 : decode cX6_append 10 = .ok (.aload_n 0, 1) := by decide +kernel
theorem dX6_append_11 : decode cX6_append 11 = .ok (.dup, 1) := by decide +kernel
theorem dX6_append_12 : decode cX6_append 12 = .ok (.getfield 15, 3) := by decide +kernel
theorem dX6_append_15 : decode cX6_append 15 = .ok (.iconst 1, 1) := by decide +kernel
theorem dX6_append_16 : decode cX6_append 16 = .ok (.iadd, 1) := by decide +kernel
theorem dX6_append_17 : decode cX6_append 17 = .ok (.putfield 15, 3) := by decide +kernel
theorem dX6_append_20 : decode cX6_append 20 = .ok (.return_, 1) := by decide +kernel
theorem dX6_shorten_0 : decode cX6_shorten 0 = .ok (.aload_n 0, 1) := by decide +kernel
theorem dX6_shorten_1 : decode cX6_shorten 1 = .ok (.iload_n 1, 1) := by decide +kernel
theorem dX6_shorten_2 : decode cX6_shorten 2 = .ok (.putfield 15, 3) := by decide +kernel
theorem dX6_shorten_5 : decode cX6_shorten 5 = .ok (.return_, 1) := by decide +kernel
theorem dX7_init_0 : decode cX7_init 0 = .ok (.aload_n 0, 1) := by decide +kernel
theorem dX7_init_1 : decode cX7_init 1 = .ok (.invokespecial 3, 3) := by decide +kernel
theorem dX7_init_4 : decode cX7_init 4 = .ok (.aload_n 0, 1) := by decide +kernel
theorem dX7_init_5 : decode cX7_init 5 = .ok (.new 9, 3) := by decide +kernel
theorem dX7_init_8 : decode cX7_init 8 = .ok (.dup, 1) := by decide +kernel
theorem dX7_init_9 : decode cX7_init 9 = .ok (.invokespecial 11, 3) := by decide +kernel
theorem dX7_init_12 : decode cX7_init 12 = .ok (.putfield 12, 3) := by decide +kernel
theorem dX7_init_15 : decode cX7_init 15 = .ok (.aload_n 0, 1) := by decide +kernel
theorem dX7_init_16 : decode cX7_init 16 = .ok (.aload_n 0, 1) := by decide +kernel
theorem dX7_init_17 : decode cX7_init 17 = .ok (.getfield 12, 3) := by decide +kernel
theorem dX7_init_20 : decode cX7_init 20 = .ok (.getfield 18, 3) := by decide +kernel
theorem dX7_init_23 : decode cX7_init 23 = .ok (.putfield 22, 3) := by decide +kernel
theorem dX7_init_26 : decode cX7_init 26 = .ok (.aload_n 0, 1) := by decide +kernel
theorem dX7_init_27 : decode cX7_init 27 = .ok (.aload_n 0, 1) := by decide +kernel
theorem dX7_init_28 : decode cX7_init 28 = .ok (.getfield 12, 3) := by decide +kernel
theorem dX7_init_31 : decode cX7_init 31 = .ok (.getfield 23, 3) := by decide +kernel
theorem dX7_init_34 : decode cX7_init 34 = .ok (.putfield 27, 3) := by decide +kernel
theorem dX7_init_37 : decode cX7_init 37 = .ok (.aload_n 0, 1) := by decide +kernel
theorem dX7_init_38 : decode cX7_init 38 = .ok (.new 28, 3) := by decide +kernel
theorem dX7_init_41 : decode cX7_init 41 = .ok (.dup, 1) := by decide +kernel
theorem dX7_init_42 : decode cX7_init 42 = .ok (.invokespecial 30, 3) := by decide +kernel
theorem dX7_init_45 : decode cX7_init 45 = .ok (.putfield 31, 3) := by decide +kernel
theorem dX7_init_48 : decode cX7_init 48 = .ok (.aload_n 0, 1) := by decide +kernel
theorem dX7_init_49 : decode cX7_init 49 = .ok (.bipush 60, 2) := by decide +kernel
theorem dX7_init_51 : decode cX7_init 51 = .ok (.newarray .boolean, 2) := by decide +kernel
theorem dX7_init_53 : decode cX7_init 53 = .ok (.putfield 35, 3) := by decide +kernel
theorem dX7_init_56 : decode cX7_init 56 = .ok (.return_, 1) := by decide +kernel
theorem dX7_takeText_0 : decode cX7_takeText 0 = .ok (.aload_n 0, 1) := by decide +kernel
theorem dX7_takeText_1 : decode cX7_takeText 1 = .ok (.invokevirtual 39, 3) := by decide +kernel
theorem dX7_takeText_4 : decode cX7_takeText 4 = .ok (.iconst 0, 1) := by decide +kernel
theorem dX7_takeText_5 : decode cX7_takeText 5 = .ok (.istore_n 1, 1) := by decide +kernel
theorem dX7_takeText_6 : decode cX7_takeText 6 = .ok (.iload_n 1, 1) := by decide +kernel
theorem dX7_takeText_7 : decode cX7_takeText 7 = .ok (.sipush 160, 3) := by decide +kernel
theorem dX7_takeText_10 : decode cX7_takeText 10 = .ok (.if_icmp .gt 83, 3) := by decide +kernel
theorem dX7_takeText_13 : decode cX7_takeText 13 = .ok (.aload_n 0, 1) := by decide +kernel
theorem dX7_takeText_14 : decode cX7_takeText 14 = .ok (.getfield 12, 3) := by decide +kernel
theorem dX7_takeText_17 : decode cX7_takeText 17 = .ok (.invokevirtual 42, 3) := by decide +kernel
theorem dX7_takeText_20 : decode cX7_takeText 20 = .ok (.ifCond .ne 5, 3) := by decide +kernel
theorem dX7_takeText_23 : decode cX7_takeText 23 = .ok (.iconst 0, 1) := by decide +kernel
theorem dX7_takeText_24 : decode cX7_takeText 24 = .ok (.ireturn, 1) := by decide +kernel
theorem dX7_takeText_25 : decode cX7_takeText 25 = .ok (.aload_n 0, 1) := by decide +kernel
theorem dX7_takeText_26 : decode cX7_takeText 26 = .ok (.getfield 12, 3) := by decide +kernel
theorem dX7_takeText_29 : decode cX7_takeText 29 = .ok (.getfield 46, 3) := by decide +kernel
theorem dX7_takeText_32 : decode cX7_takeText 32 = .ok (.ifCond .ne 16, 3) := by decide +kernel
theorem dX7_takeText_35 : decode cX7_takeText 35 = .ok (.aload_n 0, 1) := by decide +kernel
theorem dX7_takeText_36 : decode cX7_takeText 36 = .ok (.getfield 50, 3) := by decide +kernel
theorem dX7_takeText_39 : decode cX7_takeText 39 = .ok (.iconst 1, 1) := by decide +kernel
theorem dX7_takeText_40 : decode cX7_takeText 40 = .ok (.if_icmp .ne 8, 3) := by decide +kernel
theorem dX7_takeText_43 : decode cX7_takeText 43 = .ok (.aload_n 0, 1) := by decide +kernel
theorem dX7_takeText_44 : decode cX7_takeText 44 = .ok (.invokevirtual 53, 3) := by decide +kernel
theorem dX7_takeText_47 : decode cX7_takeText 47 = .ok (.ireturn, 1) := by decide +kernel
theorem dX7_takeText_48 : decode cX7_takeText 48 = .ok (.aload_n 0, 1) := by decide +kernel
theorem dX7_takeText_49 : decode cX7_takeText 49 = .ok (.getfield 12, 3) := by decide +kernel
theorem dX7_takeText_52 : decode cX7_takeText 52 = .ok (.getfield 46, 3) := by decide +kernel
theorem dX7_takeText_55 : decode cX7_takeText 55 = .ok (.aload_n 0, 1) := by decide +kernel
theorem dX7_takeText_56 : decode cX7_takeText 56 = .ok (.getfield 50, 3) := by decide +kernel
theorem dX7_takeText_59 : decode cX7_takeText 59 = .ok (.if_icmp .eq 19, 3) := by decide +kernel
theorem dX7_takeText_62 : decode cX7_takeText 62 = .ok (.aload_n 0, 1) := by decide +kernel
theorem dX7_takeText_63 : decode cX7_takeText 63 = .ok (.getfield 27, 3) := by decide +kernel
theorem dX7_takeText_66 : decode cX7_takeText 66 = .ok (.iconst 2, 1) := by decide +kernel
theorem dX7_takeText_67 : decode cX7_takeText 67 = .ok (.aload_n 0, 1) := by decide +kernel
theorem dX7_takeText_68 : decode cX7_takeText 68 = .ok (.getfield 12, 3) := by decide +kernel
theorem dX7_takeText_71 : decode cX7_takeText 71 = .ok (.getfield 58, 3) := by decide +kernel
theorem dX7_takeText_74 : decode cX7_takeText 74 = .ok (.invokevirtual 61, 3) := by decide +kernel
theorem dX7_takeText_77 : decode cX7_takeText 77 = .ok (.ireturn, 1) := by decide +kernel
theorem dX7_takeText_78 : decode cX7_takeText 78 = .ok (.aload_n 0, 1) := by decide +kernel
theorem dX7_takeText_79 : decode cX7_takeText 79 = .ok (.invokevirtual 65, 3) := by decide +kernel
theorem dX7_takeText_82 : decode cX7_takeText 82 = .ok (.ifCond .ne 5, 3) := by decide +kernel
theorem dX7_takeText_85 : decode cX7_takeText 85 = .ok (.iconst 0, 1) := by decide +kernel
theorem dX7_takeText_86 : decode cX7_takeText 86 = .ok (.ireturn, 1) := by decide +kernel
theorem dX7_takeText_87 : decode cX7_takeText 87 = .ok (.iinc 1 1, 3) := by decide +kernel
theorem dX7_takeText_90 : decode cX7_takeText 90 = .ok (.goto (-84), 3) := by decide +kernel
theorem dX7_takeText_93 : decode cX7_takeText 93 = .ok (.aload_n 0, 1) := by decide +kernel
theorem dX7_takeText_94 : decode cX7_takeText 94 = .ok (.getfield 27, 3) := by decide +kernel
theorem dX7_takeText_97 : decode cX7_takeText 97 = .ok (.iconst 2, 1) := by decide +kernel
theorem dX7_takeText_98 : decode cX7_takeText 98 = .ok (.aload_n 0, 1) := by decide +kernel
theorem dX7_takeText_99 : decode cX7_takeText 99 = .ok (.getfield 22, 3) := by decide +kernel
theorem dX7_takeText_102 : decode cX7_takeText 102 = .ok (.getfield 68, 3) := by decide +kernel
theorem dX7_takeText_105 : decode cX7_takeText 105 = .ok (.invokevirtual 61, 3) := by decide +kernel
theorem dX7_takeText_108 : decode cX7_takeText 108 = .ok (.ireturn, 1) := by decide +kernel
theorem dX7_restart_0 : decode cX7_restart 0 = .ok (.aload_n 0, 1) := by decide +kernel
theorem dX7_restart_1 : decode cX7_restart 1 = .ok (.getfield 27, 3) := by decide +kernel
theorem dX7_restart_4 : decode cX7_restart 4 = .ok (.invokevirtual 73, 3) := by decide +kernel
theorem dX7_restart_7 : decode cX7_restart 7 = .ok (.aload_n 0, 1) := by decide +kernel
theorem dX7_restart_8 : decode cX7_restart 8 = .ok (.getfield 12, 3) := by decide +kernel
theorem dX7_restart_11 : decode cX7_restart 11 = .ok (.invokevirtual 74, 3) := by decide +kernel
theorem dX7_restart_14 : decode cX7_restart 14 = .ok (.aload_n 0, 1) := by decide +kernel
theorem dX7_restart_15 : decode cX7_restart 15 = .ok (.getfield 31, 3) := by decide +kernel
theorem dX7_restart_18 : decode cX7_restart 18 = .ok (.invokevirtual 75, 3) := by decide +kernel
theorem dX7_restart_21 : decode cX7_restart 21 = .ok (.iconst 0, 1) := by decide +kernel
theorem dX7_restart_22 : decode cX7_restart 22 = .ok (.istore_n 1, 1) := by decide +kernel
theorem dX7_restart_23 : decode cX7_restart 23 = .ok (.iload_n 1, 1) := by decide +kernel
theorem dX7_restart_24 : decode cX7_restart 24 = .ok (.bipush 60, 2) := by decide +kernel
theorem dX7_restart_26 : decode cX7_restart 26 = .ok (.if_icmp .ge 16, 3) := by decide +kernel
theorem dX7_restart_29 : decode cX7_restart 29 = .ok (.aload_n 0, 1) := by decide +kernel
theorem dX7_restart_30 : decode cX7_restart 30 = .ok (.getfield 35, 3) := by decide +kernel
theorem dX7_restart_33 : decode cX7_restart 33 = .ok (.iload_n 1, 1) := by decide +kernel
theorem dX7_restart_34 : decode cX7_restart 34 = .ok (.iconst 0, 1) := by decide +kernel
theorem dX7_restart_35 : decode cX7_restart 35 = .ok (.bastore, 1) := by decide +kernel
theorem dX7_restart_36 : decode cX7_restart 36 = .ok (.iinc 1 1, 3) := by decide +kernel
theorem dX7_restart_39 : decode cX7_restart 39 = .ok (.goto (-16), 3) := by decide +kernel
theorem dX7_restart_42 : decode cX7_restart 42 = .ok (.aload_n 0, 1) := by decide +kernel
theorem dX7_restart_43 : decode cX7_restart 43 = .ok (.iconst 1, 1) := by decide +kernel
theorem dX7_restart_44 : decode cX7_restart 44 = .ok (.putfield 50, 3) := by decide +kernel
theorem dX7_restart_47 : decode cX7_restart 47 = .ok (.return_, 1) := by decide +kernel
theorem dX7_takeToken_0 : decode cX7_takeToken 0 = .ok (.aload_n 0, 1) := by decide +kernel
theorem dX7_takeToken_1 : decode cX7_takeToken 1 = .ok (.getfield 50, 3) := by decide +kernel
theorem dX7_takeToken_4 : decode cX7_takeToken 4 = .ok (.tableswitch 47 1 4 #[32, 37, 47, 42], 32) := by decide +kernel
theorem dX7_takeToken_36 : decode cX7_takeToken 36 = .ok (.aload_n 0, 1) := by decide +kernel
theorem dX7_takeToken_37 : decode cX7_takeToken 37 = .ok (.invokevirtual 78, 3) := by decide +kernel
theorem dX7_takeToken_40 : decode cX7_takeToken 40 = .ok (.ireturn, 1) := by decide +kernel
theorem dX7_takeToken_41 : decode cX7_takeToken 41 = .ok (.aload_n 0, 1) := by decide +kernel
theorem dX7_takeToken_42 : decode cX7_takeToken 42 = .ok (.invokevirtual 81, 3) := by decide +kernel
theorem dX7_takeToken_45 : decode cX7_takeToken 45 = .ok (.ireturn, 1) := by decide +kernel
theorem dX7_takeToken_46 : decode cX7_takeToken 46 = .ok (.aload_n 0, 1) := by decide +kernel
theorem dX7_takeToken_47 : decode cX7_takeToken 47 = .ok (.invokevirtual 84, 3) := by decide +kernel
theorem dX7_takeToken_50 : decode cX7_takeToken 50 = .ok (.ireturn, 1) := by decide +kernel
theorem dX7_takeToken_51 : decode cX7_takeToken 51 = .ok (.aload_n 0, 1) := by decide +kernel
theorem dX7_takeToken_52 : decode cX7_takeToken 52 = .ok (.getfield 27, 3) := by decide +kernel
theorem dX7_takeToken_55 : decode cX7_takeToken 55 = .ok (.invokevirtual 87, 3) := by decide +kernel
theorem dX7_takeToken_58 : decode cX7_takeToken 58 = .ok (.aload_n 0, 1) := by decide +kernel
theorem dX7_takeToken_59 : decode cX7_takeToken 59 = .ok (.iconst 1, 1) := by decide +kernel
theorem dX7_takeToken_60 : decode cX7_takeToken 60 = .ok (.putfield 50, 3) := by decide +kernel
theorem dX7_takeToken_63 : decode cX7_takeToken 63 = .ok (.iconst 1, 1) := by decide +kernel
theorem dX7_takeToken_64 : decode cX7_takeToken 64 = .ok (.ireturn, 1) := by decide +kernel
theorem dX7_takeName_0 : decode cX7_takeName 0 = .ok (.aload_n 0, 1) := by decide +kernel
theorem dX7_takeName_1 : decode cX7_takeName 1 = .ok (.iconst 1, 1) := by decide +kernel
theorem dX7_takeName_2 : decode cX7_takeName 2 = .ok (.putfield 90, 3) := by decide +kernel
theorem dX7_takeName_5 : decode cX7_takeName 5 = .ok (.aload_n 0, 1) := by decide +kernel
theorem dX7_takeName_6 : decode cX7_takeName 6 = .ok (.aload_n 0, 1) := by decide +kernel
theorem dX7_takeName_7 : decode cX7_takeName 7 = .ok (.getfield 12, 3) := by decide +kernel
theorem dX7_takeName_10 : decode cX7_takeName 10 = .ok (.ldc 93, 2) := by decide +kernel
theorem dX7_takeName_12 : decode cX7_takeName 12 = .ok (.invokevirtual 95, 3) := by decide +kernel
theorem dX7_takeName_15 : decode cX7_takeName 15 = .ok (.putfield 99, 3) := by decide +kernel
theorem dX7_takeName_18 : decode cX7_takeName 18 = .ok (.aload_n 0, 1) := by decide +kernel
theorem dX7_takeName_19 : decode cX7_takeName 19 = .ok (.getfield 12, 3) := by decide +kernel
theorem dX7_takeName_22 : decode cX7_takeName 22 = .ok (.ldc 103, 2) := by decide +kernel
theorem dX7_takeName_24 : decode cX7_takeName 24 = .ok (.invokevirtual 95, 3) := by decide +kernel
theorem dX7_takeName_27 : decode cX7_takeName 27 = .ok (.ifCond .eq 9, 3) := by decide +kernel
theorem dX7_takeName_30 : decode cX7_takeName 30 = .ok (.aload_n 0, 1) := by decide +kernel
theorem dX7_takeName_31 : decode cX7_takeName 31 = .ok (.iconst 4, 1) := by decide +kernel
theorem dX7_takeName_32 : decode cX7_takeName 32 = .ok (.invokevirtual 105, 3) := by decide +kernel
theorem dX7_takeName_35 : decode cX7_takeName 35 = .ok (.ireturn, 1) := by decide +kernel
theorem dX7_takeName_36 : decode cX7_takeName 36 = .ok (.aload_n 0, 1) := by decide +kernel
theorem dX7_takeName_37 : decode cX7_takeName 37 = .ok (.getfield 99, 3) := by decide +kernel
theorem dX7_takeName_40 : decode cX7_takeName 40 = .ok (.ifCond .ne 15, 3) := by decide +kernel
theorem dX7_takeName_43 : decode cX7_takeName 43 = .ok (.aload_n 0, 1) := by decide +kernel
theorem dX7_takeName_44 : decode cX7_takeName 44 = .ok (.getfield 12, 3) := by decide +kernel
theorem dX7_takeName_47 : decode cX7_takeName 47 = .ok (.ldc 109, 2) := by decide +kernel
theorem dX7_takeName_49 : decode cX7_takeName 49 = .ok (.invokevirtual 95, 3) := by decide +kernel
theorem dX7_takeName_52 : decode cX7_takeName 52 = .ok (.ifCond .eq 9, 3) := by decide +kernel
theorem dX7_takeName_55 : decode cX7_takeName 55 = .ok (.aload_n 0, 1) := by decide +kernel
theorem dX7_takeName_56 : decode cX7_takeName 56 = .ok (.iconst 2, 1) := by decide +kernel
theorem dX7_takeName_57 : decode cX7_takeName 57 = .ok (.invokevirtual 105, 3) := by decide +kernel
theorem dX7_takeName_60 : decode cX7_takeName 60 = .ok (.ireturn, 1) := by decide +kernel
theorem dX7_takeName_61 : decode cX7_takeName 61 = .ok (.aload_n 0, 1) := by decide +kernel
theorem dX7_takeName_62 : decode cX7_takeName 62 = .ok (.getfield 27, 3) := by decide +kernel
theorem dX7_takeName_65 : decode cX7_takeName 65 = .ok (.iconst 2, 1) := by decide +kernel
theorem dX7_takeName_66 : decode cX7_takeName 66 = .ok (.aload_n 0, 1) := by decide +kernel
theorem dX7_takeName_67 : decode cX7_takeName 67 = .ok (.getfield 12, 3) := by decide +kernel
theorem dX7_takeName_70 : decode cX7_takeName 70 = .ok (.getfield 58, 3) := by decide +kernel
theorem dX7_takeName_73 : decode cX7_takeName 73 = .ok (.invokevirtual 61, 3) := by decide +kernel
theorem dX7_takeName_76 : decode cX7_takeName 76 = .ok (.ireturn, 1) := by decide +kernel
theorem dX7_takeNumber_0 : decode cX7_takeNumber 0 = .ok (.aload_n 0, 1) := by decide +kernel
theorem dX7_takeNumber_1 : decode cX7_takeNumber 1 = .ok (.getfield 99, 3) := by decide +kernel
theorem dX7_takeNumber_4 : decode cX7_takeNumber 4 = .ok (.ifCond .eq 7, 3) := by decide +kernel
theorem dX7_takeNumber_7 : decode cX7_takeNumber 7 = .ok (.iconst 0, 1) := by decide +kernel
theorem dX7_takeNumber_8 : decode cX7_takeNumber 8 = .ok (.goto 4, 3) := by decide +kernel
theorem dX7_takeNumber_11 : decode cX7_takeNumber 11 = .ok (.iconst 1, 1) := by decide +kernel
theorem dX7_takeNumber_12 : decode cX7_takeNumber 12 = .ok (.istore_n 1, 1) := by decide +kernel
theorem dX7_takeNumber_13 : decode cX7_takeNumber 13 = .ok (.aload_n 0, 1) := by decide +kernel
theorem dX7_takeNumber_14 : decode cX7_takeNumber 14 = .ok (.getfield 99, 3) := by decide +kernel
theorem dX7_takeNumber_17 : decode cX7_takeNumber 17 = .ok (.ifCond .eq 8, 3) := by decide +kernel
theorem dX7_takeNumber_20 : decode cX7_takeNumber 20 = .ok (.bipush 59, 2) := by decide +kernel
theorem dX7_takeNumber_22 : decode cX7_takeNumber 22 = .ok (.goto 5, 3) := by decide +kernel
theorem dX7_takeNumber_25 : decode cX7_takeNumber 25 = .ok (.bipush 9, 2) := by decide +kernel
theorem dX7_takeNumber_27 : decode cX7_takeNumber 27 = .ok (.istore_n 2, 1) := by decide +kernel
theorem dX7_takeNumber_28 : decode cX7_takeNumber 28 = .ok (.aload_n 0, 1) := by decide +kernel
theorem dX7_takeNumber_29 : decode cX7_takeNumber 29 = .ok (.getfield 12, 3) := by decide +kernel
theorem dX7_takeNumber_32 : decode cX7_takeNumber 32 = .ok (.getfield 111, 3) := by decide +kernel
theorem dX7_takeNumber_35 : decode cX7_takeNumber 35 = .ok (.iload_n 1, 1) := by decide +kernel
theorem dX7_takeNumber_36 : decode cX7_takeNumber 36 = .ok (.if_icmp .lt 14, 3) := by decide +kernel
theorem dX7_takeNumber_39 : decode cX7_takeNumber 39 = .ok (.aload_n 0, 1) := by decide +kernel
theorem dX7_takeNumber_40 : decode cX7_takeNumber 40 = .ok (.getfield 12, 3) := by decide +kernel
theorem dX7_takeNumber_43 : decode cX7_takeNumber 43 = .ok (.getfield 111, 3) := by decide +kernel
theorem dX7_takeNumber_46 : decode cX7_takeNumber 46 = .ok (.iload_n 2, 1) := by decide +kernel
theorem dX7_takeNumber_47 : decode cX7_takeNumber 47 = .ok (.if_icmp .le 19, 3) := by decide +kernel
theorem dX7_takeNumber_50 : decode cX7_takeNumber 50 = .ok (.aload_n 0, 1) := by decide +kernel
theorem dX7_takeNumber_51 : decode cX7_takeNumber 51 = .ok (.getfield 27, 3) := by decide +kernel
theorem dX7_takeNumber_54 : decode cX7_takeNumber 54 = .ok (.iconst 3, 1) := by decide +kernel
theorem dX7_takeNumber_55 : decode cX7_takeNumber 55 = .ok (.aload_n 0, 1) := by decide +kernel
theorem dX7_takeNumber_56 : decode cX7_takeNumber 56 = .ok (.getfield 12, 3) := by decide +kernel
theorem dX7_takeNumber_59 : decode cX7_takeNumber 59 = .ok (.getfield 58, 3) := by decide +kernel
theorem dX7_takeNumber_62 : decode cX7_takeNumber 62 = .ok (.invokevirtual 61, 3) := by decide +kernel
theorem dX7_takeNumber_65 : decode cX7_takeNumber 65 = .ok (.ireturn, 1) := by decide +kernel
theorem dX7_takeNumber_66 : decode cX7_takeNumber 66 = .ok (.aload_n 0, 1) := by decide +kernel
theorem dX7_takeNumber_67 : decode cX7_takeNumber 67 = .ok (.getfield 99, 3) := by decide +kernel
theorem dX7_takeNumber_70 : decode cX7_takeNumber 70 = .ok (.ifCond .eq 22, 3) := by decide +kernel
theorem dX7_takeNumber_73 : decode cX7_takeNumber 73 = .ok (.aload_n 0, 1) := by decide +kernel
theorem dX7_takeNumber_74 : decode cX7_takeNumber 74 = .ok (.getfield 35, 3) := by decide +kernel
theorem dX7_takeNumber_77 : decode cX7_takeNumber 77 = .ok (.aload_n 0, 1) := by decide +kernel
theorem dX7_takeNumber_78 : decode cX7_takeNumber 78 = .ok (.getfield 12, 3) := by decide +kernel
theorem dX7_takeNumber_81 : decode cX7_takeNumber 81 = .ok (.getfield 111, 3) := by decide +kernel
theorem dX7_takeNumber_84 : decode cX7_takeNumber 84 = .ok (.iconst 1, 1) := by decide +kernel
theorem dX7_takeNumber_85 : decode cX7_takeNumber 85 = .ok (.bastore, 1) := by decide +kernel
theorem dX7_takeNumber_86 : decode cX7_takeNumber 86 = .ok (.aload_n 0, 1) := by decide +kernel
theorem dX7_takeNumber_87 : decode cX7_takeNumber 87 = .ok (.iconst 3, 1) := by decide +kernel
theorem dX7_takeNumber_88 : decode cX7_takeNumber 88 = .ok (.invokevirtual 105, 3) := by decide +kernel
theorem dX7_takeNumber_91 : decode cX7_takeNumber 91 = .ok (.ireturn, 1) := by decide +kernel
theorem dX7_takeNumber_92 : decode cX7_takeNumber 92 = .ok (.aload_n 0, 1) := by decide +kernel
theorem dX7_takeNumber_93 : decode cX7_takeNumber 93 = .ok (.aload_n 0, 1) := by decide +kernel
theorem dX7_takeNumber_94 : decode cX7_takeNumber 94 = .ok (.getfield 12, 3) := by decide +kernel
theorem dX7_takeNumber_97 : decode cX7_takeNumber 97 = .ok (.getfield 111, 3) := by decide +kernel
theorem dX7_takeNumber_100 : decode cX7_takeNumber 100 = .ok (.putfield 90, 3) := by decide +kernel
theorem dX7_takeNumber_103 : decode cX7_takeNumber 103 = .ok (.aload_n 0, 1) := by decide +kernel
theorem dX7_takeNumber_104 : decode cX7_takeNumber 104 = .ok (.iconst 4, 1) := by decide +kernel
theorem dX7_takeNumber_105 : decode cX7_takeNumber 105 = .ok (.invokevirtual 105, 3) := by decide +kernel
theorem dX7_takeNumber_108 : decode cX7_takeNumber 108 = .ok (.ireturn, 1) := by decide +kernel
theorem dX7_takeQuote_0 : decode cX7_takeQuote 0 = .ok (.aload_n 0, 1) := by decide +kernel
theorem dX7_takeQuote_1 : decode cX7_takeQuote 1 = .ok (.getfield 12, 3) := by decide +kernel
theorem dX7_takeQuote_4 : decode cX7_takeQuote 4 = .ok (.getfield 58, 3) := by decide +kernel
theorem dX7_takeQuote_7 : decode cX7_takeQuote 7 = .ok (.iconst 1, 1) := by decide +kernel
theorem dX7_takeQuote_8 : decode cX7_takeQuote 8 = .ok (.iadd, 1) := by decide +kernel
theorem dX7_takeQuote_9 : decode cX7_takeQuote 9 = .ok (.istore_n 1, 1) := by decide +kernel
theorem dX7_takeQuote_10 : decode cX7_takeQuote 10 = .ok (.aload_n 0, 1) := by decide +kernel
theorem dX7_takeQuote_11 : decode cX7_takeQuote 11 = .ok (.getfield 12, 3) := by decide +kernel
theorem dX7_takeQuote_14 : decode cX7_takeQuote 14 = .ok (.getfield 114, 3) := by decide +kernel
theorem dX7_takeQuote_17 : decode cX7_takeQuote 17 = .ok (.iconst 1, 1) := by decide +kernel
theorem dX7_takeQuote_18 : decode cX7_takeQuote 18 = .ok (.isub, 1) := by decide +kernel
theorem dX7_takeQuote_19 : decode cX7_takeQuote 19 = .ok (.istore_n 2, 1) := by decide +kernel
theorem dX7_takeQuote_20 : decode cX7_takeQuote 20 = .ok (.aload_n 0, 1) := by decide +kernel
theorem dX7_takeQuote_21 : decode cX7_takeQuote 21 = .ok (.getfield 90, 3) := by decide +kernel
theorem dX7_takeQuote_24 : decode cX7_takeQuote 24 = .ok (.iload_n 2, 1) := by decide +kernel
theorem dX7_takeQuote_25 : decode cX7_takeQuote 25 = .ok (.iload_n 1, 1) := by decide +kernel
theorem dX7_takeQuote_26 : decode cX7_takeQuote 26 = .ok (.isub, 1) := by decide +kernel
theorem dX7_takeQuote_27 : decode cX7_takeQuote 27 = .ok (.imul, 1) := by decide +kernel
theorem dX7_takeQuote_28 : decode cX7_takeQuote 28 = .ok (.aload_n 0, 1) := by decide +kernel
theorem dX7_takeQuote_29 : decode cX7_takeQuote 29 = .ok (.getfield 31, 3) := by decide +kernel
theorem dX7_takeQuote_32 : decode cX7_takeQuote 32 = .ok (.invokevirtual 117, 3) := by decide +kernel
theorem dX7_takeQuote_35 : decode cX7_takeQuote 35 = .ok (.if_icmp .le 19, 3) := by decide +kernel
theorem dX7_takeQuote_38 : decode cX7_takeQuote 38 = .ok (.aload_n 0, 1) := by decide +kernel
theorem dX7_takeQuote_39 : decode cX7_takeQuote 39 = .ok (.getfield 27, 3) := by decide +kernel
theorem dX7_takeQuote_42 : decode cX7_takeQuote 42 = .ok (.iconst 5, 1) := by decide +kernel
theorem dX7_takeQuote_43 : decode cX7_takeQuote 43 = .ok (.aload_n 0, 1) := by decide +kernel
theorem dX7_takeQuote_44 : decode cX7_takeQuote 44 = .ok (.getfield 12, 3) := by decide +kernel
theorem dX7_takeQuote_47 : decode cX7_takeQuote 47 = .ok (.getfield 58, 3) := by decide +kernel
theorem dX7_takeQuote_50 : decode cX7_takeQuote 50 = .ok (.invokevirtual 61, 3) := by decide +kernel
theorem dX7_takeQuote_53 : decode cX7_takeQuote 53 = .ok (.ireturn, 1) := by decide +kernel
theorem dX7_takeQuote_54 : decode cX7_takeQuote 54 = .ok (.iconst 0, 1) := by decide +kernel
theorem dX7_takeQuote_55 : decode cX7_takeQuote 55 = .ok (.istore_n 3, 1) := by decide +kernel
theorem dX7_takeQuote_56 : decode cX7_takeQuote 56 = .ok (.iload_n 3, 1) := by decide +kernel
theorem dX7_takeQuote_57 : decode cX7_takeQuote 57 = .ok (.aload_n 0, 1) := by decide +kernel
theorem dX7_takeQuote_58 : decode cX7_takeQuote 58 = .ok (.getfield 90, 3) := by decide +kernel
theorem dX7_takeQuote_61 : decode cX7_takeQuote 61 = .ok (.if_icmp .ge 48, 3) := by decide +kernel
theorem dX7_takeQuote_64 : decode cX7_takeQuote 64 = .ok (.iload_n 1, 1) := by decide +kernel
theorem dX7_takeQuote_65 : decode cX7_takeQuote 65 = .ok (.istore 4, 2) := by decide +kernel
theorem dX7_takeQuote_67 : decode cX7_takeQuote 67 = .ok (.iload 4, 2) := by decide +kernel
theorem dX7_takeQuote_69 : decode cX7_takeQuote 69 = .ok (.iload_n 2, 1) := by decide +kernel
theorem dX7_takeQuote_70 : decode cX7_takeQuote 70 = .ok (.if_icmp .ge 33, 3) := by decide +kernel
theorem dX7_takeQuote_73 : decode cX7_takeQuote 73 = .ok (.aload_n 0, 1) := by decide +kernel
theorem dX7_takeQuote_74 : decode cX7_takeQuote 74 = .ok (.getfield 31, 3) := by decide +kernel
theorem dX7_takeQuote_77 : decode cX7_takeQuote 77 = .ok (.aload_n 0, 1) := by decide +kernel
theorem dX7_takeQuote_78 : decode cX7_takeQuote 78 = .ok (.getfield 31, 3) := by decide +kernel
theorem dX7_takeQuote_81 : decode cX7_takeQuote 81 = .ok (.getfield 121, 3) := by decide +kernel
theorem dX7_takeQuote_84 : decode cX7_takeQuote 84 = .ok (.aload_n 0, 1) := by decide +kernel
theorem dX7_takeQuote_85 : decode cX7_takeQuote 85 = .ok (.getfield 22, 3) := by decide +kernel
theorem dX7_takeQuote_88 : decode cX7_takeQuote 88 = .ok (.getfield 124, 3) := by decide +kernel
theorem dX7_takeQuote_91 : decode cX7_takeQuote 91 = .ok (.iload 4, 2) := by decide +kernel
theorem dX7_takeQuote_93 : decode cX7_takeQuote 93 = .ok (.iaload, 1) := by decide +kernel
theorem dX7_takeQuote_94 : decode cX7_takeQuote 94 = .ok (.invokevirtual 128, 3) := by decide +kernel
theorem dX7_takeQuote_97 : decode cX7_takeQuote 97 = .ok (.iinc 4 1, 3) := by decide +kernel
theorem dX7_takeQuote_100 : decode cX7_takeQuote 100 = .ok (.goto (-33), 3) := by decide +kernel
theorem dX7_takeQuote_103 : decode cX7_takeQuote 103 = .ok (.iinc 3 1, 3) := by decide +kernel
theorem dX7_takeQuote_106 : decode cX7_takeQuote 106 = .ok (.goto (-50), 3) := by decide +kernel
theorem dX7_takeQuote_109 : decode cX7_takeQuote 109 = .ok (.aload_n 0, 1) := by decide +kernel
theorem dX7_takeQuote_110 : decode cX7_takeQuote 110 = .ok (.iconst 3, 1) := by decide +kernel
theorem dX7_takeQuote_111 : decode cX7_takeQuote 111 = .ok (.invokevirtual 105, 3) := by decide +kernel
theorem dX7_takeQuote_114 : decode cX7_takeQuote 114 = .ok (.ireturn, 1) := by decide +kernel
theorem dX7_goOnWith_0 : decode cX7_goOnWith 0 = .ok (.aload_n 0, 1) := by decide +kernel
theorem dX7_goOnWith_1 : decode cX7_goOnWith 1 = .ok (.getfield 27, 3) := by decide +kernel
theorem dX7_goOnWith_4 : decode cX7_goOnWith 4 = .ok (.invokevirtual 132, 3) := by decide +kernel
theorem dX7_goOnWith_7 : decode cX7_goOnWith 7 = .ok (.aload_n 0, 1) := by decide +kernel
theorem dX7_goOnWith_8 : decode cX7_goOnWith 8 = .ok (.iload_n 1, 1) := by decide +kernel
theorem dX7_goOnWith_9 : decode cX7_goOnWith 9 = .ok (.putfield 50, 3) := by decide +kernel
theorem dX7_goOnWith_12 : decode cX7_goOnWith 12 = .ok (.iconst 1, 1) := by decide +kernel
theorem dX7_goOnWith_13 : decode cX7_goOnWith 13 = .ok (.ireturn, 1) := by decide +kernel
theorem dX7_takeMarks_0 : decode cX7_takeMarks 0 = .ok (.iconst 0, 1) := by decide +kernel
theorem dX7_takeMarks_1 : decode cX7_takeMarks 1 = .ok (.istore_n 1, 1) := by decide +kernel
theorem dX7_takeMarks_2 : decode cX7_takeMarks 2 = .ok (.iload_n 1, 1) := by decide +kernel
theorem dX7_takeMarks_3 : decode cX7_takeMarks 3 = .ok (.bipush 60, 2) := by decide +kernel
theorem dX7_takeMarks_5 : decode cX7_takeMarks 5 = .ok (.if_icmp .ge 69, 3) := by decide +kernel
theorem dX7_takeMarks_8 : decode cX7_takeMarks 8 = .ok (.aload_n 0, 1) := by decide +kernel
theorem dX7_takeMarks_9 : decode cX7_takeMarks 9 = .ok (.getfield 35, 3) := by decide +kernel
theorem dX7_takeMarks_12 : decode cX7_takeMarks 12 = .ok (.iload_n 1, 1) := by decide +kernel
theorem dX7_takeMarks_13 : decode cX7_takeMarks 13 = .ok (.baload, 1) := by decide +kernel
theorem dX7_takeMarks_14 : decode cX7_takeMarks 14 = .ok (.ifCond .eq 54, 3) := by decide +kernel
theorem dX7_takeMarks_17 : decode cX7_takeMarks 17 = .ok (.aload_n 0, 1) := by decide +kernel
theorem dX7_takeMarks_18 : decode cX7_takeMarks 18 = .ok (.getfield 31, 3) := by decide +kernel
theorem dX7_takeMarks_21 : decode cX7_takeMarks 21 = .ok (.iload_n 1, 1) := by decide +kernel
theorem dX7_takeMarks_22 : decode cX7_takeMarks 22 = .ok (.invokevirtual 135, 3) := by decide +kernel
theorem dX7_takeMarks_25 : decode cX7_takeMarks 25 = .ok (.ifCond .eq 17, 3) := by decide +kernel
theorem dX7_takeMarks_28 : decode cX7_takeMarks 28 = .ok (.aload_n 0, 1) := by decide +kernel
theorem dX7_takeMarks_29 : decode cX7_takeMarks 29 = .ok (.getfield 31, 3) := by decide +kernel
theorem dX7_takeMarks_32 : decode cX7_takeMarks 32 = .ok (.iload_n 1, 1) := by decide +kernel
theorem dX7_takeMarks_33 : decode cX7_takeMarks 33 = .ok (.invokevirtual 138, 3) := by decide +kernel
theorem dX7_takeMarks_36 : decode cX7_takeMarks 36 = .ok (.invokestatic 142, 3) := by decide +kernel
theorem dX7_takeMarks_39 : decode cX7_takeMarks 39 = .ok (.ifCond .ne 20, 3) := by decide +kernel
theorem dX7_takeMarks_42 : decode cX7_takeMarks 42 = .ok (.aload_n 0, 1) := by decide +kernel
theorem dX7_takeMarks_43 : decode cX7_takeMarks 43 = .ok (.getfield 27, 3) := by decide +kernel
theorem dX7_takeMarks_46 : decode cX7_takeMarks 46 = .ok (.bipush 6, 2) := by decide +kernel
theorem dX7_takeMarks_48 : decode cX7_takeMarks 48 = .ok (.aload_n 0, 1) := by decide +kernel
theorem dX7_takeMarks_49 : decode cX7_takeMarks 49 = .ok (.getfield 22, 3) := by decide +kernel
theorem dX7_takeMarks_52 : decode cX7_takeMarks 52 = .ok (.getfield 68, 3) := by decide +kernel
theorem dX7_takeMarks_55 : decode cX7_takeMarks 55 = .ok (.invokevirtual 61, 3) := by decide +kernel
theorem dX7_takeMarks_58 : decode cX7_takeMarks 58 = .ok (.ireturn, 1) := by decide +kernel
theorem dX7_takeMarks_59 : decode cX7_takeMarks 59 = .ok (.aload_n 0, 1) := by decide +kernel
theorem dX7_takeMarks_60 : decode cX7_takeMarks 60 = .ok (.getfield 31, 3) := by decide +kernel
theorem dX7_takeMarks_63 : decode cX7_takeMarks 63 = .ok (.iload_n 1, 1) := by decide +kernel
theorem dX7_takeMarks_64 : decode cX7_takeMarks 64 = .ok (.iconst 1, 1) := by decide +kernel
theorem dX7_takeMarks_65 : decode cX7_takeMarks 65 = .ok (.invokevirtual 147, 3) := by decide +kernel
theorem dX7_takeMarks_68 : decode cX7_takeMarks 68 = .ok (.iinc 1 1, 3) := by decide +kernel
theorem dX7_takeMarks_71 : decode cX7_takeMarks 71 = .ok (.goto (-69), 3) := by decide +kernel
theorem dX7_takeMarks_74 : decode cX7_takeMarks 74 = .ok (.iconst 1, 1) := by decide +kernel
theorem dX7_takeMarks_75 : decode cX7_takeMarks 75 = .ok (.ireturn, 1) := by decide +kernel
theorem dX8_init_0 : decode cX8_init 0 = .ok (.aload_n 0, 1) := by decide +kernel
theorem dX8_init_1 : decode cX8_init 1 = .ok (.invokespecial 1, 3) := by decide +kernel
theorem dX8_init_4 : decode cX8_init 4 = .ok (.aload_n 0, 1) := by decide +kernel
theorem dX8_init_5 : decode cX8_init 5 = .ok (.new 7, 3) := by decide +kernel
theorem dX8_init_8 : decode cX8_init 8 = .ok (.dup, 1) := by decide +kernel
theorem dX8_init_9 : decode cX8_init 9 = .ok (.invokespecial 9, 3) := by decide +kernel
theorem dX8_init_12 : decode cX8_init 12 = .ok (.putfield 10, 3) := by decide +kernel
theorem dX8_init_15 : decode cX8_init 15 = .ok (.aload_n 0, 1) := by decide +kernel
theorem dX8_init_16 : decode cX8_init 16 = .ok (.new 16, 3) := by decide +kernel
theorem dX8_init_19 : decode cX8_init 19 = .ok (.dup, 1) := by decide +kernel
theorem dX8_init_20 : decode cX8_init 20 = .ok (.invokespecial 18, 3) := by decide +kernel
theorem dX8_init_23 : decode cX8_init 23 = .ok (.putfield 19, 3) := by decide +kernel
theorem dX8_init_26 : decode cX8_init 26 = .ok (.return_, 1) := by decide +kernel
theorem dX8_restart_0 : decode cX8_restart 0 = .ok (.aload_n 0, 1) := by decide +kernel
theorem dX8_restart_1 : decode cX8_restart 1 = .ok (.iconst 0, 1) := by decide +kernel
theorem dX8_restart_2 : decode cX8_restart 2 = .ok (.putfield 23, 3) := by decide +kernel
theorem dX8_restart_5 : decode cX8_restart 5 = .ok (.return_, 1) := by decide +kernel
theorem dX8_advance_0 : decode cX8_advance 0 = .ok (.aload_n 0, 1) := by decide +kernel
theorem dX8_advance_1 : decode cX8_advance 1 = .ok (.getfield 23, 3) := by decide +kernel
theorem dX8_advance_4 : decode cX8_advance 4 = .ok (.aload_n 0, 1) := by decide +kernel
theorem dX8_advance_5 : decode cX8_advance 5 = .ok (.getfield 10, 3) := by decide +kernel
theorem dX8_advance_8 : decode cX8_advance 8 = .ok (.getfield 27, 3) := by decide +kernel
theorem dX8_advance_11 : decode cX8_advance 11 = .ok (.if_icmp .ge 33, 3) := by decide +kernel
theorem dX8_advance_14 : decode cX8_advance 14 = .ok (.aload_n 0, 1) := by decide +kernel
theorem dX8_advance_15 : decode cX8_advance 15 = .ok (.getfield 10, 3) := by decide +kernel
theorem dX8_advance_18 : decode cX8_advance 18 = .ok (.getfield 30, 3) := by decide +kernel
theorem dX8_advance_21 : decode cX8_advance 21 = .ok (.aload_n 0, 1) := by decide +kernel
theorem dX8_advance_22 : decode cX8_advance 22 = .ok (.getfield 23, 3) := by decide +kernel
theorem dX8_advance_25 : decode cX8_advance 25 = .ok (.iaload, 1) := by decide +kernel
theorem dX8_advance_26 : decode cX8_advance 26 = .ok (.bipush 32, 2) := by decide +kernel
theorem dX8_advance_28 : decode cX8_advance 28 = .ok (.if_icmp .ne 16, 3) := by decide +kernel
theorem dX8_advance_31 : decode cX8_advance 31 = .ok (.aload_n 0, 1) := by decide +kernel
theorem dX8_advance_32 : decode cX8_advance 32 = .ok (.dup, 1) := by decide +kernel
theorem dX8_advance_33 : decode cX8_advance 33 = .ok (.getfield 23, 3) := by decide +kernel
theorem dX8_advance_36 : decode cX8_advance 36 = .ok (.iconst 1, 1) := by decide +kernel
theorem dX8_advance_37 : decode cX8_advance 37 = .ok (.iadd, 1) := by decide +kernel
theorem dX8_advance_38 : decode cX8_advance 38 = .ok (.putfield 23, 3) := by decide +kernel
theorem dX8_advance_41 : decode cX8_advance 41 = .ok (.goto (-41), 3) := by decide +kernel
theorem dX8_advance_44 : decode cX8_advance 44 = .ok (.aload_n 0, 1) := by decide +kernel
theorem dX8_advance_45 : decode cX8_advance 45 = .ok (.aload_n 0, 1) := by decide +kernel
theorem dX8_advance_46 : decode cX8_advance 46 = .ok (.getfield 23, 3) := by decide +kernel
theorem dX8_advance_49 : decode cX8_advance 49 = .ok (.putfield 34, 3) := by decide +kernel
theorem dX8_advance_52 : decode cX8_advance 52 = .ok (.aload_n 0, 1) := by decide +kernel
theorem dX8_advance_53 : decode cX8_advance 53 = .ok (.getfield 34, 3) := by decide +kernel
theorem dX8_advance_56 : decode cX8_advance 56 = .ok (.aload_n 0, 1) := by decide +kernel
theorem dX8_advance_57 : decode cX8_advance 57 = .ok (.getfield 10, 3) := by decide +kernel
theorem dX8_advance_60 : decode cX8_advance 60 = .ok (.getfield 27, 3) := by decide +kernel
theorem dX8_advance_63 : decode cX8_advance 63 = .ok (.if_icmp .lt 10, 3) := by decide +kernel
theorem dX8_advance_66 : decode cX8_advance 66 = .ok (.aload_n 0, 1) := by decide +kernel
theorem dX8_advance_67 : decode cX8_advance 67 = .ok (.iconst 0, 1) := by decide +kernel
theorem dX8_advance_68 : decode cX8_advance 68 = .ok (.putfield 37, 3) := by decide +kernel
theorem dX8_advance_71 : decode cX8_advance 71 = .ok (.iconst 1, 1) := by decide +kernel
theorem dX8_advance_72 : decode cX8_advance 72 = .ok (.ireturn, 1) := by decide +kernel
theorem dX8_advance_73 : decode cX8_advance 73 = .ok (.aload_n 0, 1) := by decide +kernel
theorem dX8_advance_74 : decode cX8_advance 74 = .ok (.getfield 10, 3) := by decide +kernel
theorem dX8_advance_77 : decode cX8_advance 77 = .ok (.getfield 30, 3) := by decide +kernel
theorem dX8_advance_80 : decode cX8_advance 80 = .ok (.aload_n 0, 1) := by decide +kernel
theorem dX8_advance_81 : decode cX8_advance 81 = .ok (.getfield 34, 3) := by decide +kernel
theorem dX8_advance_84 : decode cX8_advance 84 = .ok (.iaload, 1) := by decide +kernel
theorem dX8_advance_85 : decode cX8_advance 85 = .ok (.istore_n 1, 1) := by decide +kernel
theorem dX8_advance_86 : decode cX8_advance 86 = .ok (.iload_n 1, 1) := by decide +kernel
theorem dX8_advance_87 : decode cX8_advance 87 = .ok (.invokestatic 40, 3) := by decide +kernel
theorem dX8_advance_90 : decode cX8_advance 90 = .ok (.ifCond .eq 8, 3) := by decide +kernel
theorem dX8_advance_93 : decode cX8_advance 93 = .ok (.aload_n 0, 1) := by decide +kernel
theorem dX8_advance_94 : decode cX8_advance 94 = .ok (.invokevirtual 46, 3) := by decide +kernel
theorem dX8_advance_97 : decode cX8_advance 97 = .ok (.ireturn, 1) := by decide +kernel
theorem dX8_advance_98 : decode cX8_advance 98 = .ok (.iload_n 1, 1) := by decide +kernel
theorem dX8_advance_99 : decode cX8_advance 99 = .ok (.invokestatic 50, 3) := by decide +kernel
theorem dX8_advance_102 : decode cX8_advance 102 = .ok (.ifCond .eq 8, 3) := by decide +kernel
theorem dX8_advance_105 : decode cX8_advance 105 = .ok (.aload_n 0, 1) := by decide +kernel
theorem dX8_advance_106 : decode cX8_advance 106 = .ok (.invokevirtual 53, 3) := by decide +kernel
theorem dX8_advance_109 : decode cX8_advance 109 = .ok (.ireturn, 1) := by decide +kernel
theorem dX8_advance_110 : decode cX8_advance 110 = .ok (.iload_n 1, 1) := by decide +kernel
theorem dX8_advance_111 : decode cX8_advance 111 = .ok (.bipush 34, 2) := by decide +kernel
theorem dX8_advance_113 : decode cX8_advance 113 = .ok (.if_icmp .ne 8, 3) := by decide +kernel
theorem dX8_advance_116 : decode cX8_advance 116 = .ok (.aload_n 0, 1) := by decide +kernel
theorem dX8_advance_117 : decode cX8_advance 117 = .ok (.invokevirtual 56, 3) := by decide +kernel
theorem dX8_advance_120 : decode cX8_advance 120 = .ok (.ireturn, 1) := by decide +kernel
theorem dX8_advance_121 : decode cX8_advance 121 = .ok (.aload_n 0, 1) := by decide +kernel
theorem dX8_advance_122 : decode cX8_advance 122 = .ok (.iload_n 1, 1) := by decide +kernel
theorem dX8_advance_123 : decode cX8_advance 123 = .ok (.invokevirtual 59, 3) := by decide +kernel
theorem dX8_advance_126 : decode cX8_advance 126 = .ok (.ireturn, 1) := by decide +kernel
theorem dX8_passName_0 : decode cX8_passName 0 = .ok (.aload_n 0, 1) := by decide +kernel
theorem dX8_passName_1 : decode cX8_passName 1 = .ok (.iconst 1, 1) := by decide +kernel
theorem dX8_passName_2 : decode cX8_passName 2 = .ok (.putfield 37, 3) := by decide +kernel
theorem dX8_passName_5 : decode cX8_passName 5 = .ok (.aload_n 0, 1) := by decide +kernel
theorem dX8_passName_6 : decode cX8_passName 6 = .ok (.getfield 23, 3) := by decide +kernel
theorem dX8_passName_9 : decode cX8_passName 9 = .ok (.aload_n 0, 1) := by decide +kernel
theorem dX8_passName_10 : decode cX8_passName 10 = .ok (.getfield 10, 3) := by decide +kernel
theorem dX8_passName_13 : decode cX8_passName 13 = .ok (.getfield 27, 3) := by decide +kernel
theorem dX8_passName_16 : decode cX8_passName 16 = .ok (.if_icmp .ge 34, 3) := by decide +kernel
theorem dX8_passName_19 : decode cX8_passName 19 = .ok (.aload_n 0, 1) := by decide +kernel
theorem dX8_passName_20 : decode cX8_passName 20 = .ok (.getfield 10, 3) := by decide +kernel
theorem dX8_passName_23 : decode cX8_passName 23 = .ok (.getfield 30, 3) := by decide +kernel
theorem dX8_passName_26 : decode cX8_passName 26 = .ok (.aload_n 0, 1) := by decide +kernel
theorem dX8_passName_27 : decode cX8_passName 27 = .ok (.getfield 23, 3) := by decide +kernel
theorem dX8_passName_30 : decode cX8_passName 30 = .ok (.iaload, 1) := by decide +kernel
theorem dX8_passName_31 : decode cX8_passName 31 = .ok (.invokestatic 40, 3) := by decide +kernel
theorem dX8_passName_34 : decode cX8_passName 34 = .ok (.ifCond .eq 16, 3) := by decide +kernel
theorem dX8_passName_37 : decode cX8_passName 37 = .ok (.aload_n 0, 1) := by decide +kernel
theorem dX8_passName_38 : decode cX8_passName 38 = .ok (.dup, 1) := by decide +kernel
theorem dX8_passName_39 : decode cX8_passName 39 = .ok (.getfield 23, 3) := by decide +kernel
theorem dX8_passName_42 : decode cX8_passName 42 = .ok (.iconst 1, 1) := by decide +kernel
theorem dX8_passName_43 : decode cX8_passName 43 = .ok (.iadd, 1) := by decide +kernel
theorem dX8_passName_44 : decode cX8_passName 44 = .ok (.putfield 23, 3) := by decide +kernel
theorem dX8_passName_47 : decode cX8_passName 47 = .ok (.goto (-42), 3) := by decide +kernel
theorem dX8_passName_50 : decode cX8_passName 50 = .ok (.iconst 1, 1) := by decide +kernel
theorem dX8_passName_51 : decode cX8_passName 51 = .ok (.ireturn, 1) := by decide +kernel
theorem dX8_passNumber_0 : decode cX8_passNumber 0 = .ok (.aload_n 0, 1) := by decide +kernel
theorem dX8_passNumber_1 : decode cX8_passNumber 1 = .ok (.iconst 2, 1) := by decide +kernel
theorem dX8_passNumber_2 : decode cX8_passNumber 2 = .ok (.putfield 37, 3) := by decide +kernel
theorem dX8_passNumber_5 : decode cX8_passNumber 5 = .ok (.aload_n 0, 1) := by decide +kernel
theorem dX8_passNumber_6 : decode cX8_passNumber 6 = .ok (.iconst 0, 1) := by decide +kernel
theorem dX8_passNumber_7 : decode cX8_passNumber 7 = .ok (.putfield 62, 3) := by decide +kernel
theorem dX8_passNumber_10 : decode cX8_passNumber 10 = .ok (.aload_n 0, 1) := by decide +kernel
theorem dX8_passNumber_11 : decode cX8_passNumber 11 = .ok (.getfield 23, 3) := by decide +kernel
theorem dX8_passNumber_14 : decode cX8_passNumber 14 = .ok (.aload_n 0, 1) := by decide +kernel
theorem dX8_passNumber_15 : decode cX8_passNumber 15 = .ok (.getfield 10, 3) := by decide +kernel
theorem dX8_passNumber_18 : decode cX8_passNumber 18 = .ok (.getfield 27, 3) := by decide +kernel
theorem dX8_passNumber_21 : decode cX8_passNumber 21 = .ok (.if_icmp .ge 61, 3) := by decide +kernel
theorem dX8_passNumber_24 : decode cX8_passNumber 24 = .ok (.aload_n 0, 1) := by decide +kernel
theorem dX8_passNumber_25 : decode cX8_passNumber 25 = .ok (.getfield 10, 3) := by decide +kernel
theorem dX8_passNumber_28 : decode cX8_passNumber 28 = .ok (.getfield 30, 3) := by decide +kernel
theorem dX8_passNumber_31 : decode cX8_passNumber 31 = .ok (.aload_n 0, 1) := by decide +kernel
theorem dX8_passNumber_32 : decode cX8_passNumber 32 = .ok (.getfield 23, 3) := by decide +kernel
theorem dX8_passNumber_35 : decode cX8_passNumber 35 = .ok (.iaload, 1) := by decide +kernel
theorem dX8_passNumber_36 : decode cX8_passNumber 36 = .ok (.invokestatic 50, 3) := by decide +kernel
theorem dX8_passNumber_39 : decode cX8_passNumber 39 = .ok (.ifCond .eq 43, 3) := by decide +kernel
theorem dX8_passNumber_42 : decode cX8_passNumber 42 = .ok (.aload_n 0, 1) := by decide +kernel
theorem dX8_passNumber_43 : decode cX8_passNumber 43 = .ok (.aload_n 0, 1) := by decide +kernel
theorem dX8_passNumber_44 : decode cX8_passNumber 44 = .ok (.getfield 62, 3) := by decide +kernel
theorem dX8_passNumber_47 : decode cX8_passNumber 47 = .ok (.bipush 10, 2) := by decide +kernel
theorem dX8_passNumber_49 : decode cX8_passNumber 49 = .ok (.imul, 1) := by decide +kernel
theorem dX8_passNumber_50 : decode cX8_passNumber 50 = .ok (.aload_n 0, 1) := by decide +kernel
theorem dX8_passNumber_51 : decode cX8_passNumber 51 = .ok (.getfield 10, 3) := by decide +kernel
theorem dX8_passNumber_54 : decode cX8_passNumber 54 = .ok (.getfield 30, 3) := by decide +kernel
theorem dX8_passNumber_57 : decode cX8_passNumber 57 = .ok (.aload_n 0, 1) := by decide +kernel
theorem dX8_passNumber_58 : decode cX8_passNumber 58 = .ok (.getfield 23, 3) := by decide +kernel
theorem dX8_passNumber_61 : decode cX8_passNumber 61 = .ok (.iaload, 1) := by decide +kernel
theorem dX8_passNumber_62 : decode cX8_passNumber 62 = .ok (.iadd, 1) := by decide +kernel
theorem dX8_passNumber_63 : decode cX8_passNumber 63 = .ok (.bipush 48, 2) := by decide +kernel
theorem dX8_passNumber_65 : decode cX8_passNumber 65 = .ok (.isub, 1) := by decide +kernel
theorem dX8_passNumber_66 : decode cX8_passNumber 66 = .ok (.putfield 62, 3) := by decide +kernel
theorem dX8_passNumber_69 : decode cX8_passNumber 69 = .ok (.aload_n 0, 1) := by decide +kernel
theorem dX8_passNumber_70 : decode cX8_passNumber 70 = .ok (.dup, 1) := by decide +kernel
theorem dX8_passNumber_71 : decode cX8_passNumber 71 = .ok (.getfield 23, 3) := by decide +kernel
theorem dX8_passNumber_74 : decode cX8_passNumber 74 = .ok (.iconst 1, 1) := by decide +kernel
theorem dX8_passNumber_75 : decode cX8_passNumber 75 = .ok (.iadd, 1) := by decide +kernel
theorem dX8_passNumber_76 : decode cX8_passNumber 76 = .ok (.putfield 23, 3) := by decide +kernel
theorem dX8_passNumber_79 : decode cX8_passNumber 79 = .ok (.goto (-69), 3) := by decide +kernel
theorem dX8_passNumber_82 : decode cX8_passNumber 82 = .ok (.aload_n 0, 1) := by decide +kernel
theorem dX8_passNumber_83 : decode cX8_passNumber 83 = .ok (.getfield 23, 3) := by decide +kernel
theorem dX8_passNumber_86 : decode cX8_passNumber 86 = .ok (.aload_n 0, 1) := by decide +kernel
theorem dX8_passNumber_87 : decode cX8_passNumber 87 = .ok (.getfield 34, 3) := by decide +kernel
theorem dX8_passNumber_90 : decode cX8_passNumber 90 = .ok (.isub, 1) := by decide +kernel
theorem dX8_passNumber_91 : decode cX8_passNumber 91 = .ok (.iconst 2, 1) := by decide +kernel
theorem dX8_passNumber_92 : decode cX8_passNumber 92 = .ok (.if_icmp .le 18, 3) := by decide +kernel
theorem dX8_passNumber_95 : decode cX8_passNumber 95 = .ok (.aload_n 0, 1) := by decide +kernel
theorem dX8_passNumber_96 : decode cX8_passNumber 96 = .ok (.getfield 19, 3) := by decide +kernel
theorem dX8_passNumber_99 : decode cX8_passNumber 99 = .ok (.iconst 1, 1) := by decide +kernel
theorem dX8_passNumber_100 : decode cX8_passNumber 100 = .ok (.aload_n 0, 1) := by decide +kernel
theorem dX8_passNumber_101 : decode cX8_passNumber 101 = .ok (.getfield 34, 3) := by decide +kernel
theorem dX8_passNumber_104 : decode cX8_passNumber 104 = .ok (.invokevirtual 65, 3) := by decide +kernel
theorem dX8_passNumber_107 : decode cX8_passNumber 107 = .ok (.ifCond .eq 7, 3) := by decide +kernel
theorem dX8_passNumber_110 : decode cX8_passNumber 110 = .ok (.iconst 1, 1) := by decide +kernel
theorem dX8_passNumber_111 : decode cX8_passNumber 111 = .ok (.goto 4, 3) := by decide +kernel
theorem dX8_passNumber_114 : decode cX8_passNumber 114 = .ok (.iconst 0, 1) := by decide +kernel
theorem dX8_passNumber_115 : decode cX8_passNumber 115 = .ok (.ireturn, 1) := by decide +kernel
theorem dX8_passQuote_0 : decode cX8_passQuote 0 = .ok (.aload_n 0, 1) := by decide +kernel
theorem dX8_passQuote_1 : decode cX8_passQuote 1 = .ok (.iconst 4, 1) := by decide +kernel
theorem dX8_passQuote_2 : decode cX8_passQuote 2 = .ok (.putfield 37, 3) := by decide +kernel
theorem dX8_passQuote_5 : decode cX8_passQuote 5 = .ok (.aload_n 0, 1) := by decide +kernel
theorem dX8_passQuote_6 : decode cX8_passQuote 6 = .ok (.aload_n 0, 1) := by decide +kernel
theorem dX8_passQuote_7 : decode cX8_passQuote 7 = .ok (.getfield 34, 3) := by decide +kernel
theorem dX8_passQuote_10 : decode cX8_passQuote 10 = .ok (.iconst 1, 1) := by decide +kernel
theorem dX8_passQuote_11 : decode cX8_passQuote 11 = .ok (.iadd, 1) := by decide +kernel
theorem dX8_passQuote_12 : decode cX8_passQuote 12 = .ok (.putfield 23, 3) := by decide +kernel
theorem dX8_passQuote_15 : decode cX8_passQuote 15 = .ok (.aload_n 0, 1) := by decide +kernel
theorem dX8_passQuote_16 : decode cX8_passQuote 16 = .ok (.getfield 23, 3) := by decide +kernel
theorem dX8_passQuote_19 : decode cX8_passQuote 19 = .ok (.aload_n 0, 1) := by decide +kernel
theorem dX8_passQuote_20 : decode cX8_passQuote 20 = .ok (.getfield 10, 3) := by decide +kernel
theorem dX8_passQuote_23 : decode cX8_passQuote 23 = .ok (.getfield 27, 3) := by decide +kernel
theorem dX8_passQuote_26 : decode cX8_passQuote 26 = .ok (.if_icmp .ge 78, 3) := by decide +kernel
theorem dX8_passQuote_29 : decode cX8_passQuote 29 = .ok (.aload_n 0, 1) := by decide +kernel
theorem dX8_passQuote_30 : decode cX8_passQuote 30 = .ok (.getfield 10, 3) := by decide +kernel
theorem dX8_passQuote_33 : decode cX8_passQuote 33 = .ok (.getfield 30, 3) := by decide +kernel
theorem dX8_passQuote_36 : decode cX8_passQuote 36 = .ok (.aload_n 0, 1) := by decide +kernel
theorem dX8_passQuote_37 : decode cX8_passQuote 37 = .ok (.getfield 23, 3) := by decide +kernel
theorem dX8_passQuote_40 : decode cX8_passQuote 40 = .ok (.iaload, 1) := by decide +kernel
theorem dX8_passQuote_41 : decode cX8_passQuote 41 = .ok (.istore_n 1, 1) := by decide +kernel
theorem dX8_passQuote_42 : decode cX8_passQuote 42 = .ok (.iload_n 1, 1) := by decide +kernel
theorem dX8_passQuote_43 : decode cX8_passQuote 43 = .ok (.bipush 34, 2) := by decide +kernel
theorem dX8_passQuote_45 : decode cX8_passQuote 45 = .ok (.if_icmp .ne 15, 3) := by decide +kernel
theorem dX8_passQuote_48 : decode cX8_passQuote 48 = .ok (.aload_n 0, 1) := by decide +kernel
theorem dX8_passQuote_49 : decode cX8_passQuote 49 = .ok (.dup, 1) := by decide +kernel
theorem dX8_passQuote_50 : decode cX8_passQuote 50 = .ok (.getfield 23, 3) := by decide +kernel
theorem dX8_passQuote_53 : decode cX8_passQuote 53 = .ok (.iconst 1, 1) := by decide +kernel
theorem dX8_passQuote_54 : decode cX8_passQuote 54 = .ok (.iadd, 1) := by decide +kernel
theorem dX8_passQuote_55 : decode cX8_passQuote 55 = .ok (.putfield 23, 3) := by decide +kernel
theorem dX8_passQuote_58 : decode cX8_passQuote 58 = .ok (.iconst 1, 1) := by decide +kernel
theorem dX8_passQuote_59 : decode cX8_passQuote 59 = .ok (.ireturn, 1) := by decide +kernel
theorem dX8_passQuote_60 : decode cX8_passQuote 60 = .ok (.iload_n 1, 1) := by decide +kernel
theorem dX8_passQuote_61 : decode cX8_passQuote 61 = .ok (.invokestatic 69, 3) := by decide +kernel
theorem dX8_passQuote_64 : decode cX8_passQuote 64 = .ok (.ifCond .ne 27, 3) := by decide +kernel
theorem dX8_passQuote_67 : decode cX8_passQuote 67 = .ok (.aload_n 0, 1) := by decide +kernel
theorem dX8_passQuote_68 : decode cX8_passQuote 68 = .ok (.getfield 19, 3) := by decide +kernel
theorem dX8_passQuote_71 : decode cX8_passQuote 71 = .ok (.iconst 1, 1) := by decide +kernel
theorem dX8_passQuote_72 : decode cX8_passQuote 72 = .ok (.aload_n 0, 1) := by decide +kernel
theorem dX8_passQuote_73 : decode cX8_passQuote 73 = .ok (.getfield 23, 3) := by decide +kernel
theorem dX8_passQuote_76 : decode cX8_passQuote 76 = .ok (.aload_n 0, 1) := by decide +kernel
theorem dX8_passQuote_77 : decode cX8_passQuote 77 = .ok (.getfield 23, 3) := by decide +kernel
theorem dX8_passQuote_80 : decode cX8_passQuote 80 = .ok (.aload_n 0, 1) := by decide +kernel
theorem dX8_passQuote_81 : decode cX8_passQuote 81 = .ok (.getfield 34, 3) := by decide +kernel
theorem dX8_passQuote_84 : decode cX8_passQuote 84 = .ok (.isub, 1) := by decide +kernel
theorem dX8_passQuote_85 : decode cX8_passQuote 85 = .ok (.iconst 1, 1) := by decide +kernel
theorem dX8_passQuote_86 : decode cX8_passQuote 86 = .ok (.isub, 1) := by decide +kernel
theorem dX8_passQuote_87 : decode cX8_passQuote 87 = .ok (.invokevirtual 72, 3) := by decide +kernel
theorem dX8_passQuote_90 : decode cX8_passQuote 90 = .ok (.ireturn, 1) := by decide +kernel
theorem dX8_passQuote_91 : decode cX8_passQuote 91 = .ok (.aload_n 0, 1) := by decide +kernel
theorem dX8_passQuote_92 : decode cX8_passQuote 92 = .ok (.dup, 1) := by decide +kernel
theorem dX8_passQuote_93 : decode cX8_passQuote 93 = .ok (.getfield 23, 3) := by decide +kernel
theorem dX8_passQuote_96 : decode cX8_passQuote 96 = .ok (.iconst 1, 1) := by decide +kernel
theorem dX8_passQuote_97 : decode cX8_passQuote 97 = .ok (.iadd, 1) := by decide +kernel
theorem dX8_passQuote_98 : decode cX8_passQuote 98 = .ok (.putfield 23, 3) := by decide +kernel
theorem dX8_passQuote_101 : decode cX8_passQuote 101 = .ok (.goto (-86), 3) := by decide +kernel
theorem dX8_passQuote_104 : decode cX8_passQuote 104 = .ok (.aload_n 0, 1) := by decide +kernel
theorem dX8_passQuote_105 : decode cX8_passQuote 105 = .ok (.getfield 19, 3) := by decide +kernel
theorem dX8_passQuote_108 : decode cX8_passQuote 108 = .ok (.iconst 2, 1) := by decide +kernel
theorem dX8_passQuote_109 : decode cX8_passQuote 109 = .ok (.aload_n 0, 1) := by decide +kernel
theorem dX8_passQuote_110 : decode cX8_passQuote 110 = .ok (.getfield 23, 3) := by decide +kernel
theorem dX8_passQuote_113 : decode cX8_passQuote 113 = .ok (.aload_n 0, 1) := by decide +kernel
theorem dX8_passQuote_114 : decode cX8_passQuote 114 = .ok (.getfield 23, 3) := by decide +kernel
theorem dX8_passQuote_117 : decode cX8_passQuote 117 = .ok (.aload_n 0, 1) := by decide +kernel
theorem dX8_passQuote_118 : decode cX8_passQuote 118 = .ok (.getfield 34, 3) := by decide +kernel
theorem dX8_passQuote_121 : decode cX8_passQuote 121 = .ok (.isub, 1) := by decide +kernel
theorem dX8_passQuote_122 : decode cX8_passQuote 122 = .ok (.iconst 1, 1) := by decide +kernel
theorem dX8_passQuote_123 : decode cX8_passQuote 123 = .ok (.isub, 1) := by decide +kernel
theorem dX8_passQuote_124 : decode cX8_passQuote 124 = .ok (.invokevirtual 72, 3) := by decide +kernel
theorem dX8_passQuote_127 : decode cX8_passQuote 127 = .ok (.ireturn, 1) := by decide +kernel
theorem dX8_passSemicolon_0 : decode cX8_passSemicolon 0 = .ok (.aload_n 0, 1) := by decide +kernel
theorem dX8_passSemicolon_1 : decode cX8_passSemicolon 1 = .ok (.iconst 3, 1) := by decide +kernel
theorem dX8_passSemicolon_2 : decode cX8_passSemicolon 2 = .ok (.putfield 37, 3) := by decide +kernel
theorem dX8_passSemicolon_5 : decode cX8_passSemicolon 5 = .ok (.aload_n 0, 1) := by decide +kernel
theorem dX8_passSemicolon_6 : decode cX8_passSemicolon 6 = .ok (.dup, 1) := by decide +kernel
theorem dX8_passSemicolon_7 : decode cX8_passSemicolon 7 = .ok (.getfield 23, 3) := by decide +kernel
theorem dX8_passSemicolon_10 : decode cX8_passSemicolon 10 = .ok (.iconst 1, 1) := by decide +kernel
theorem dX8_passSemicolon_11 : decode cX8_passSemicolon 11 = .ok (.iadd, 1) := by decide +kernel
theorem dX8_passSemicolon_12 : decode cX8_passSemicolon 12 = .ok (.putfield 23, 3) := by decide +kernel
theorem dX8_passSemicolon_15 : decode cX8_passSemicolon 15 = .ok (.iload_n 1, 1) := by decide +kernel
theorem dX8_passSemicolon_16 : decode cX8_passSemicolon 16 = .ok (.bipush 59, 2) := by decide +kernel
theorem dX8_passSemicolon_18 : decode cX8_passSemicolon 18 = .ok (.if_icmp .eq 18, 3) := by decide +kernel
theorem dX8_passSemicolon_21 : decode cX8_passSemicolon 21 = .ok (.aload_n 0, 1) := by decide +kernel
theorem dX8_passSemicolon_22 : decode cX8_passSemicolon 22 = .ok (.getfield 19, 3) := by decide +kernel
theorem dX8_passSemicolon_25 : decode cX8_passSemicolon 25 = .ok (.iconst 1, 1) := by decide +kernel
theorem dX8_passSemicolon_26 : decode cX8_passSemicolon 26 = .ok (.aload_n 0, 1) := by decide +kernel
theorem dX8_passSemicolon_27 : decode cX8_passSemicolon 27 = .ok (.getfield 34, 3) := by decide +kernel
theorem dX8_passSemicolon_30 : decode cX8_passSemicolon 30 = .ok (.invokevirtual 65, 3) := by decide +kernel
theorem dX8_passSemicolon_33 : decode cX8_passSemicolon 33 = .ok (.ifCond .eq 7, 3) := by decide +kernel
theorem dX8_passSemicolon_36 : decode cX8_passSemicolon 36 = .ok (.iconst 1, 1) := by decide +kernel
theorem dX8_passSemicolon_37 : decode cX8_passSemicolon 37 = .ok (.goto 4, 3) := by decide +kernel
theorem dX8_passSemicolon_40 : decode cX8_passSemicolon 40 = .ok (.iconst 0, 1) := by decide +kernel
theorem dX8_passSemicolon_41 : decode cX8_passSemicolon 41 = .ok (.ireturn, 1) := by decide +kernel
theorem dX8_isFigure_0 : decode cX8_isFigure 0 = .ok (.iload_n 0, 1) := by decide +kernel
theorem dX8_isFigure_1 : decode cX8_isFigure 1 = .ok (.bipush 48, 2) := by decide +kernel
theorem dX8_isFigure_3 : decode cX8_isFigure 3 = .ok (.if_icmp .lt 13, 3) := by decide +kernel
theorem dX8_isFigure_6 : decode cX8_isFigure 6 = .ok (.iload_n 0, 1) := by decide +kernel
theorem dX8_isFigure_7 : decode cX8_isFigure 7 = .ok (.bipush 57, 2) := by decide +kernel
theorem dX8_isFigure_9 : decode cX8_isFigure 9 = .ok (.if_icmp .gt 7, 3) := by decide +kernel
theorem dX8_isFigure_12 : decode cX8_isFigure 12 = .ok (.iconst 1, 1) := by decide +kernel
theorem dX8_isFigure_13 : decode cX8_isFigure 13 = .ok (.goto 4, 3) := by decide +kernel
theorem dX8_isFigure_16 : decode cX8_isFigure 16 = .ok (.iconst 0, 1) := by decide +kernel
theorem dX8_isFigure_17 : decode cX8_isFigure 17 = .ok (.ireturn, 1) := by decide +kernel
theorem dX8_isName_0 : decode cX8_isName 0 = .ok (.aload_n 0, 1) := by decide +kernel
theorem dX8_isName_1 : decode cX8_isName 1 = .ok (.getfield 37, 3) := by decide +kernel
theorem dX8_isName_4 : decode cX8_isName 4 = .ok (.iconst 1, 1) := by decide +kernel
theorem dX8_isName_5 : decode cX8_isName 5 = .ok (.if_icmp .ne 19, 3) := by decide +kernel
theorem dX8_isName_8 : decode cX8_isName 8 = .ok (.aload_n 0, 1) := by decide +kernel
theorem dX8_isName_9 : decode cX8_isName 9 = .ok (.getfield 23, 3) := by decide +kernel
theorem dX8_isName_12 : decode cX8_isName 12 = .ok (.aload_n 0, 1) := by decide +kernel
theorem dX8_isName_13 : decode cX8_isName 13 = .ok (.getfield 34, 3) := by decide +kernel
theorem dX8_isName_16 : decode cX8_isName 16 = .ok (.isub, 1) := by decide +kernel
theorem dX8_isName_17 : decode cX8_isName 17 = .ok (.aload_n 1, 1) := by decide +kernel
theorem dX8_isName_18 : decode cX8_isName 18 = .ok (.invokevirtual 76, 3) := by decide +kernel
theorem dX8_isName_21 : decode cX8_isName 21 = .ok (.if_icmp .eq 5, 3) := by decide +kernel
theorem dX8_isName_24 : decode cX8_isName 24 = .ok (.iconst 0, 1) := by decide +kernel
theorem dX8_isName_25 : decode cX8_isName 25 = .ok (.ireturn, 1) := by decide +kernel
theorem dX8_isName_26 : decode cX8_isName 26 = .ok (.iconst 0, 1) := by decide +kernel
theorem dX8_isName_27 : decode cX8_isName 27 = .ok (.istore_n 2, 1) := by decide +kernel
theorem dX8_isName_28 : decode cX8_isName 28 = .ok (.iload_n 2, 1) := by decide +kernel
theorem dX8_isName_29 : decode cX8_isName 29 = .ok (.aload_n 1, 1) := by decide +kernel
theorem dX8_isName_30 : decode cX8_isName 30 = .ok (.invokevirtual 76, 3) := by decide +kernel
theorem dX8_isName_33 : decode cX8_isName 33 = .ok (.if_icmp .ge 33, 3) := by decide +kernel
theorem dX8_isName_36 : decode cX8_isName 36 = .ok (.aload_n 0, 1) := by decide +kernel
theorem dX8_isName_37 : decode cX8_isName 37 = .ok (.getfield 10, 3) := by decide +kernel
theorem dX8_isName_40 : decode cX8_isName 40 = .ok (.getfield 30, 3) := by decide +kernel
theorem dX8_isName_43 : decode cX8_isName 43 = .ok (.aload_n 0, 1) := by decide +kernel
theorem dX8_isName_44 : decode cX8_isName 44 = .ok (.getfield 34, 3) := by decide +kernel
theorem dX8_isName_47 : decode cX8_isName 47 = .ok (.iload_n 2, 1) := by decide +kernel
theorem dX8_isName_48 : decode cX8_isName 48 = .ok (.iadd, 1) := by decide +kernel
theorem dX8_isName_49 : decode cX8_isName 49 = .ok (.iaload, 1) := by decide +kernel
theorem dX8_isName_50 : decode cX8_isName 50 = .ok (.aload_n 1, 1) := by decide +kernel
theorem dX8_isName_51 : decode cX8_isName 51 = .ok (.iload_n 2, 1) := by decide +kernel
theorem dX8_isName_52 : decode cX8_isName 52 = .ok (.invokevirtual 81, 3) := by decide +kernel
theorem dX8_isName_55 : decode cX8_isName 55 = .ok (.if_icmp .eq 5, 3) := by decide +kernel
theorem dX8_isName_58 : decode cX8_isName 58 = .ok (.iconst 0, 1) := by decide +kernel
theorem dX8_isName_59 : decode cX8_isName 59 = .ok (.ireturn, 1) := by decide +kernel
theorem dX8_isName_60 : decode cX8_isName 60 = .ok (.iinc 2 1, 3) := by decide +kernel
theorem dX8_isName_63 : decode cX8_isName 63 = .ok (.goto (-35), 3) := by decide +kernel
theorem dX8_isName_66 : decode cX8_isName 66 = .ok (.iconst 1, 1) := by decide +kernel
theorem dX8_isName_67 : decode cX8_isName 67 = .ok (.ireturn, 1) := by decide +kernel
theorem dJ9_max_7cf53_0 : decode cJ9_max_7cf53 0 = .ok (.iload_n 0, 1) := by decide +kernel
theorem dJ9_max_7cf53_1 : decode cJ9_max_7cf53 1 = .ok (.iload_n 1, 1) := by decide +kernel
theorem dJ9_max_7cf53_2 : decode cJ9_max_7cf53 2 = .ok (.if_icmp .lt 7, 3) := by decide +kernel
theorem dJ9_max_7cf53_5 : decode cJ9_max_7cf53 5 = .ok (.iload_n 0, 1) := by decide +kernel
theorem dJ9_max_7cf53_6 : decode cJ9_max_7cf53 6 = .ok (.goto 4, 3) := by decide +kernel
theorem dJ9_max_7cf53_9 : decode cJ9_max_7cf53 9 = .ok (.iload_n 1, 1) := by decide +kernel
theorem dJ9_max_7cf53_10 : decode cJ9_max_7cf53 10 = .ok (.ireturn, 1) := by decide +kernel
theorem dJ9_min_7cf53_0 : decode cJ9_min_7cf53 0 = .ok (.iload_n 0, 1) := by decide +kernel
theorem dJ9_min_7cf53_1 : decode cJ9_min_7cf53 1 = .ok (.iload_n 1, 1) := by decide +kernel
theorem dJ9_min_7cf53_2 : decode cJ9_min_7cf53 2 = .ok (.if_icmp .gt 7, 3) := by decide +kernel
theorem dJ9_min_7cf53_5 : decode cJ9_min_7cf53 5 = .ok (.iload_n 0, 1) := by decide +kernel
theorem dJ9_min_7cf53_6 : decode cJ9_min_7cf53 6 = .ok (.goto 4, 3) := by decide +kernel
theorem dJ9_min_7cf53_9 : decode cJ9_min_7cf53 9 = .ok (.iload_n 1, 1) := by decide +kernel
theorem dJ9_min_7cf53_10 : decode cJ9_min_7cf53 10 = .ok (.ireturn, 1) := by decide +kernel
theorem dJ0_length_8abf5_0 : decode cJ0_length_8abf5 0 = .ok (.aload_n 0, 1) := by decide +kernel
theorem dJ0_length_8abf5_1 : decode cJ0_length_8abf5 1 = .ok (.getfield 9, 3) := by decide +kernel
theorem dJ0_length_8abf5_4 : decode cJ0_length_8abf5 4 = .ok (.arraylength, 1) := by decide +kernel
theorem dJ0_length_8abf5_5 : decode cJ0_length_8abf5 5 = .ok (.aload_n 0, 1) := by decide +kernel
theorem dJ0_length_8abf5_6 : decode cJ0_length_8abf5 6 = .ok (.invokevirtual 335, 3) := by decide +kernel
theorem dJ0_length_8abf5_9 : decode cJ0_length_8abf5 9 = .ok (.ishr, 1) := by decide +kernel
theorem dJ0_length_8abf5_10 : decode cJ0_length_8abf5 10 = .ok (.ireturn, 1) := by decide +kernel
theorem dJ0_charAt_5068e_0 : decode cJ0_charAt_5068e 0 = .ok (.aload_n 0, 1) := by decide +kernel
theorem dJ0_charAt_5068e_1 : decode cJ0_charAt_5068e 1 = .ok (.invokevirtual 492, 3) := by decide +kernel
theorem dJ0_charAt_5068e_4 : decode cJ0_charAt_5068e 4 = .ok (.ifCond .eq 12, 3) := by decide +kernel
theorem dJ0_charAt_5068e_7 : decode cJ0_charAt_5068e 7 = .ok (.aload_n 0, 1) := by decide +kernel
theorem dJ0_charAt_5068e_8 : decode cJ0_charAt_5068e 8 = .ok (.getfield 9, 3) := by decide +kernel
theorem dJ0_charAt_5068e_11 : decode cJ0_charAt_5068e 11 = .ok (.iload_n 1, 1) := by decide +kernel
theorem dJ0_charAt_5068e_12 : decode cJ0_charAt_5068e 12 = .ok (.invokestatic 495, 3) := by decide +kernel
theorem dJ0_charAt_5068e_15 : decode cJ0_charAt_5068e 15 = .ok (.ireturn, 1) := by decide +kernel
theorem dJ0_charAt_5068e_16 : decode cJ0_charAt_5068e 16 = .ok (.aload_n 0, 1) := by decide +kernel
theorem dJ0_charAt_5068e_17 : decode cJ0_charAt_5068e 17 = .ok (.getfield 9, 3) := by decide +kernel
theorem dJ0_charAt_5068e_20 : decode cJ0_charAt_5068e 20 = .ok (.iload_n 1, 1) := by decide +kernel
theorem dJ0_charAt_5068e_21 : decode cJ0_charAt_5068e 21 = .ok (.invokestatic 498, 3) := by decide +kernel
theorem dJ0_charAt_5068e_24 : decode cJ0_charAt_5068e 24 = .ok (.ireturn, 1) := by decide +kernel
theorem dJ0_coder_7d493_0 : decode cJ0_coder_7d493 0 = .ok (.getstatic 38, 3) := by decide +kernel
theorem dJ0_coder_7d493_3 : decode cJ0_coder_7d493 3 = .ok (.ifCond .eq 10, 3) := by decide +kernel
theorem dJ0_coder_7d493_6 : decode cJ0_coder_7d493 6 = .ok (.aload_n 0, 1) := by decide +kernel
theorem dJ0_coder_7d493_7 : decode cJ0_coder_7d493 7 = .ok (.getfield 15, 3) := by decide +kernel
theorem dJ0_coder_7d493_10 : decode cJ0_coder_7d493 10 = .ok (.goto 4, 3) := by decide +kernel
theorem dJ0_coder_7d493_13 : decode cJ0_coder_7d493 13 = .ok (.iconst 1, 1) := by decide +kernel
theorem dJ0_coder_7d493_14 : decode cJ0_coder_7d493 14 = .ok (.ireturn, 1) := by decide +kernel
theorem dJ0_isLatin1_aae02_0 : decode cJ0_isLatin1_aae02 0 = .ok (.getstatic 38, 3) := by decide +kernel
theorem dJ0_isLatin1_aae02_3 : decode cJ0_isLatin1_aae02 3 = .ok (.ifCond .eq 14, 3) := by decide +kernel
theorem dJ0_isLatin1_aae02_6 : decode cJ0_isLatin1_aae02 6 = .ok (.aload_n 0, 1) := by decide +kernel
theorem dJ0_isLatin1_aae02_7 : decode cJ0_isLatin1_aae02 7 = .ok (.getfield 15, 3) := by decide +kernel
theorem dJ0_isLatin1_aae02_10 : decode cJ0_isLatin1_aae02 10 = .ok (.ifCond .ne 7, 3) := by decide +kernel
theorem dJ0_isLatin1_aae02_13 : decode cJ0_isLatin1_aae02 13 = .ok (.iconst 1, 1) := by decide +kernel
theorem dJ0_isLatin1_aae02_14 : decode cJ0_isLatin1_aae02 14 = .ok (.goto 4, 3) := by decide +kernel
theorem dJ0_isLatin1_aae02_17 : decode cJ0_isLatin1_aae02 17 = .ok (.iconst 0, 1) := by decide +kernel
theorem dJ0_isLatin1_aae02_18 : decode cJ0_isLatin1_aae02 18 = .ok (.ireturn, 1) := by decide +kernel
theorem dJ0_checkIndex_df160_0 : decode cJ0_checkIndex_df160 0 = .ok (.iload_n 0, 1) := by decide +kernel
theorem dJ0_checkIndex_df160_1 : decode cJ0_checkIndex_df160 1 = .ok (.iload_n 1, 1) := by decide +kernel
theorem dJ0_checkIndex_df160_2 : decode cJ0_checkIndex_df160 2 = .ok (.getstatic 1053, 3) := by decide +kernel
theorem dJ0_checkIndex_df160_5 : decode cJ0_checkIndex_df160 5 = .ok (.invokestatic 1059, 3) := by decide +kernel
theorem dJ0_checkIndex_df160_8 : decode cJ0_checkIndex_df160 8 = .ok (.pop, 1) := by decide +kernel
theorem dJ0_checkIndex_df160_9 : decode cJ0_checkIndex_df160 9 = .ok (.return_, 1) := by decide +kernel
theorem dJ1_charAt_3b067_0 : decode cJ1_charAt_3b067 0 = .ok (.iload_n 1, 1) := by decide +kernel
theorem dJ1_charAt_3b067_1 : decode cJ1_charAt_3b067 1 = .ok (.aload_n 0, 1) := by decide +kernel
theorem dJ1_charAt_3b067_2 : decode cJ1_charAt_3b067 2 = .ok (.arraylength, 1) := by decide +kernel
theorem dJ1_charAt_3b067_3 : decode cJ1_charAt_3b067 3 = .ok (.invokestatic 9, 3) := by decide +kernel
theorem dJ1_charAt_3b067_6 : decode cJ1_charAt_3b067 6 = .ok (.aload_n 0, 1) := by decide +kernel
theorem dJ1_charAt_3b067_7 : decode cJ1_charAt_3b067 7 = .ok (.iload_n 1, 1) := by decide +kernel
theorem dJ1_charAt_3b067_8 : decode cJ1_charAt_3b067 8 = .ok (.baload, 1) := by decide +kernel
theorem dJ1_charAt_3b067_9 : decode cJ1_charAt_3b067 9 = .ok (.sipush 255, 3) := by decide +kernel
theorem dJ1_charAt_3b067_12 : decode cJ1_charAt_3b067 12 = .ok (.iand, 1) := by decide +kernel
theorem dJ1_charAt_3b067_13 : decode cJ1_charAt_3b067 13 = .ok (.i2c, 1) := by decide +kernel
theorem dJ1_charAt_3b067_14 : decode cJ1_charAt_3b067 14 = .ok (.ireturn, 1) := by decide +kernel
theorem dJ2_getChar_3b067_0 : decode cJ2_getChar_3b067 0 = .ok (.getstatic 44, 3) := by decide +kernel
theorem dJ2_getChar_3b067_3 : decode cJ2_getChar_3b067 3 = .ok (.ifCond .ne 25, 3) := by decide +kernel
theorem dJ2_getChar_3b067_6 : decode cJ2_getChar_3b067 6 = .ok (.iload_n 1, 1) := by decide +kernel
theorem dJ2_getChar_3b067_7 : decode cJ2_getChar_3b067 7 = .ok (.ifCond .lt 11, 3) := by decide +kernel
theorem dJ2_getChar_3b067_10 : decode cJ2_getChar_3b067 10 = .ok (.iload_n 1, 1) := by decide +kernel
theorem dJ2_getChar_3b067_11 : decode cJ2_getChar_3b067 11 = .ok (.aload_n 0, 1) := by decide +kernel
theorem dJ2_getChar_3b067_12 : decode cJ2_getChar_3b067 12 = .ok (.invokestatic 48, 3) := by decide +kernel
theorem dJ2_getChar_3b067_15 : decode cJ2_getChar_3b067 15 = .ok (.if_icmp .lt 13, 3) := by decide +kernel
theorem dJ2_getChar_3b067_18 : decode cJ2_getChar_3b067 18 = .ok (.new 52, 3) := by decide +kernel
theorem dJ2_getChar_3b067_21 : decode cJ2_getChar_3b067 21 = .ok (.dup, 1) := by decide +kernel
theorem dJ2_getChar_3b067_22 : decode cJ2_getChar_3b067 22 = .ok (.ldc 54, 2) := by decide +kernel
theorem dJ2_getChar_3b067_24 : decode cJ2_getChar_3b067 24 = .ok (.invokespecial 56, 3) := by decide +kernel
theorem dJ2_getChar_3b067_27 : decode cJ2_getChar_3b067 27 = .ok (.athrow, 1) := by decide +kernel
theorem dJ2_getChar_3b067_28 : decode cJ2_getChar_3b067 28 = .ok (.iload_n 1, 1) := by decide +kernel
theorem dJ2_getChar_3b067_29 : decode cJ2_getChar_3b067 29 = .ok (.iconst 1, 1) := by decide +kernel
theorem dJ2_getChar_3b067_30 : decode cJ2_getChar_3b067 30 = .ok (.ishl, 1) := by decide +kernel
theorem dJ2_getChar_3b067_31 : decode cJ2_getChar_3b067 31 = .ok (.istore_n 1, 1) := by decide +kernel
theorem dJ2_getChar_3b067_32 : decode cJ2_getChar_3b067 32 = .ok (.aload_n 0, 1) := by decide +kernel
theorem dJ2_getChar_3b067_33 : decode cJ2_getChar_3b067 33 = .ok (.iload_n 1, 1) := by decide +kernel
theorem dJ2_getChar_3b067_34 : decode cJ2_getChar_3b067 34 = .ok (.iinc 1 1, 3) := by decide +kernel
theorem dJ2_getChar_3b067_37 : decode cJ2_getChar_3b067 37 = .ok (.baload, 1) := by decide +kernel
theorem dJ2_getChar_3b067_38 : decode cJ2_getChar_3b067 38 = .ok (.sipush 255, 3) := by decide +kernel
theorem dJ2_getChar_3b067_41 : decode cJ2_getChar_3b067 41 = .ok (.iand, 1) := by decide +kernel
theorem dJ2_getChar_3b067_42 : decode cJ2_getChar_3b067 42 = .ok (.getstatic 59, 3) := by decide +kernel
theorem dJ2_getChar_3b067_45 : decode cJ2_getChar_3b067 45 = .ok (.ishl, 1) := by decide +kernel
theorem dJ2_getChar_3b067_46 : decode cJ2_getChar_3b067 46 = .ok (.aload_n 0, 1) := by decide +kernel
theorem dJ2_getChar_3b067_47 : decode cJ2_getChar_3b067 47 = .ok (.iload_n 1, 1) := by decide +kernel
theorem dJ2_getChar_3b067_48 : decode cJ2_getChar_3b067 48 = .ok (.baload, 1) := by decide +kernel
theorem dJ2_getChar_3b067_49 : decode cJ2_getChar_3b067 49 = .ok (.sipush 255, 3) := by decide +kernel
theorem dJ2_getChar_3b067_52 : decode cJ2_getChar_3b067 52 = .ok (.iand, 1) := by decide +kernel
theorem dJ2_getChar_3b067_53 : decode cJ2_getChar_3b067 53 = .ok (.getstatic 63, 3) := by decide +kernel
theorem dJ2_getChar_3b067_56 : decode cJ2_getChar_3b067 56 = .ok (.ishl, 1) := by decide +kernel
theorem dJ2_getChar_3b067_57 : decode cJ2_getChar_3b067 57 = .ok (.ior, 1) := by decide +kernel
theorem dJ2_getChar_3b067_58 : decode cJ2_getChar_3b067 58 = .ok (.i2c, 1) := by decide +kernel
theorem dJ2_getChar_3b067_59 : decode cJ2_getChar_3b067 59 = .ok (.ireturn, 1) := by decide +kernel
theorem dJ2_length_9d52b_0 : decode cJ2_length_9d52b 0 = .ok (.aload_n 0, 1) := by decide +kernel
theorem dJ2_length_9d52b_1 : decode cJ2_length_9d52b 1 = .ok (.arraylength, 1) := by decide +kernel
theorem dJ2_length_9d52b_2 : decode cJ2_length_9d52b 2 = .ok (.iconst 1, 1) := by decide +kernel
theorem dJ2_length_9d52b_3 : decode cJ2_length_9d52b 3 = .ok (.ishr, 1) := by decide +kernel
theorem dJ2_length_9d52b_4 : decode cJ2_length_9d52b 4 = .ok (.ireturn, 1) := by decide +kernel
theorem dJ2_charAt_3b067_0 : decode cJ2_charAt_3b067 0 = .ok (.iload_n 1, 1) := by decide +kernel
theorem dJ2_charAt_3b067_1 : decode cJ2_charAt_3b067 1 = .ok (.aload_n 0, 1) := by decide +kernel
theorem dJ2_charAt_3b067_2 : decode cJ2_charAt_3b067 2 = .ok (.invokestatic 67, 3) := by decide +kernel
theorem dJ2_charAt_3b067_5 : decode cJ2_charAt_3b067 5 = .ok (.aload_n 0, 1) := by decide +kernel
theorem dJ2_charAt_3b067_6 : decode cJ2_charAt_3b067 6 = .ok (.iload_n 1, 1) := by decide +kernel
theorem dJ2_charAt_3b067_7 : decode cJ2_charAt_3b067 7 = .ok (.invokestatic 71, 3) := by decide +kernel
theorem dJ2_charAt_3b067_10 : decode cJ2_charAt_3b067 10 = .ok (.ireturn, 1) := by decide +kernel
theorem dJ2_checkIndex_2214a_0 : decode cJ2_checkIndex_2214a 0 = .ok (.iload_n 0, 1) := by decide +kernel
theorem dJ2_checkIndex_2214a_1 : decode cJ2_checkIndex_2214a 1 = .ok (.aload_n 1, 1) := by decide +kernel
theorem dJ2_checkIndex_2214a_2 : decode cJ2_checkIndex_2214a 2 = .ok (.invokestatic 48, 3) := by decide +kernel
theorem dJ2_checkIndex_2214a_5 : decode cJ2_checkIndex_2214a 5 = .ok (.invokestatic 414, 3) := by decide +kernel
theorem dJ2_checkIndex_2214a_8 : decode cJ2_checkIndex_2214a 8 = .ok (.return_, 1) := by decide +kernel
theorem dJ3_checkIndex_8e157_0 : decode cJ3_checkIndex_8e157 0 = .ok (.iload_n 0, 1) := by decide +kernel
theorem dJ3_checkIndex_8e157_1 : decode cJ3_checkIndex_8e157 1 = .ok (.ifCond .lt 8, 3) := by decide +kernel
theorem dJ3_checkIndex_8e157_4 : decode cJ3_checkIndex_8e157 4 = .ok (.iload_n 0, 1) := by decide +kernel
theorem dJ3_checkIndex_8e157_5 : decode cJ3_checkIndex_8e157 5 = .ok (.iload_n 1, 1) := by decide +kernel
theorem dJ3_checkIndex_8e157_6 : decode cJ3_checkIndex_8e157 6 = .ok (.if_icmp .lt 10, 3) := by decide +kernel
theorem dJ3_checkIndex_8e157_9 : decode cJ3_checkIndex_8e157 9 = .ok (.aload_n 2, 1) := by decide +kernel
theorem dJ3_checkIndex_8e157_10 : decode cJ3_checkIndex_8e157 10 = .ok (.iload_n 0, 1) := by decide +kernel
theorem dJ3_checkIndex_8e157_11 : decode cJ3_checkIndex_8e157 11 = .ok (.iload_n 1, 1) := by decide +kernel
theorem dJ3_checkIndex_8e157_12 : decode cJ3_checkIndex_8e157 12 = .ok (.invokestatic 95, 3) := by decide +kernel
theorem dJ3_checkIndex_8e157_15 : decode cJ3_checkIndex_8e157 15 = .ok (.athrow, 1) := by decide +kernel
theorem dJ3_checkIndex_8e157_16 : decode cJ3_checkIndex_8e157 16 = .ok (.iload_n 0, 1) := by decide +kernel
theorem dJ3_checkIndex_8e157_17 : decode cJ3_checkIndex_8e157 17 = .ok (.ireturn, 1) := by decide +kernel
