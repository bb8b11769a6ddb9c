theorem dX5_readPair_101 : decode cX5_readPair 101 = .ok (.iastore, 1) := by decide +kernel
theorem dX5_readPair_102 : decode cX5_readPair 102 = .ok (.aload_n 0, 1) := by decide +kernel
theorem dX5_readPair_103 : decode cX5_readPair 103 = .ok (.getfield 12, 3) := by decide +kernel
theorem dX5_readPair_106 : decode cX5_readPair 106 = .ok (.iload_n 1, 1) := by decide +kernel
theorem dX5_readPair_107 : decode cX5_readPair 107 = .ok (.iconst 1, 1) := by decide +kernel
theorem dX5_readPair_108 : decode cX5_readPair 108 = .ok (.iadd, 1) := by decide +kernel
theorem dX5_readPair_109 : decode cX5_readPair 109 = .ok (.putfield 38, 3) := by decide +kernel
theorem dX5_readPair_112 : decode cX5_readPair 112 = .ok (.aload_n 0, 1) := by decide +kernel
theorem dX5_readPair_113 : decode cX5_readPair 113 = .ok (.getfield 12, 3) := by decide +kernel
theorem dX5_readPair_116 : decode cX5_readPair 116 = .ok (.getfield 93, 3) := by decide +kernel
theorem dX5_readPair_119 : decode cX5_readPair 119 = .ok (.iload_n 1, 1) := by decide +kernel
theorem dX5_readPair_120 : decode cX5_readPair 120 = .ok (.iaload, 1) := by decide +kernel
theorem dX5_readPair_121 : decode cX5_readPair 121 = .ok (.iconst (-1), 1) := by decide +kernel
theorem dX5_readPair_122 : decode cX5_readPair 122 = .ok (.if_icmp .eq 16, 3) := by decide +kernel
theorem dX5_readPair_125 : decode cX5_readPair 125 = .ok (.aload_n 0, 1) := by decide +kernel
theorem dX5_readPair_126 : decode cX5_readPair 126 = .ok (.bipush 59, 2) := by decide +kernel
theorem dX5_readPair_128 : decode cX5_readPair 128 = .ok (.invokevirtual 51, 3) := by decide +kernel
theorem dX5_readPair_131 : decode cX5_readPair 131 = .ok (.ifCond .eq 7, 3) := by decide +kernel
theorem dX5_readPair_134 : decode cX5_readPair 134 = .ok (.iconst 1, 1) := by decide +kernel
theorem dX5_readPair_135 : decode cX5_readPair 135 = .ok (.goto 4, 3) := by decide +kernel
theorem dX5_readPair_138 : decode cX5_readPair 138 = .ok (.iconst 0, 1) := by decide +kernel
theorem dX5_readPair_139 : decode cX5_readPair 139 = .ok (.ireturn, 1) := by decide +kernel
theorem dX5_standsHere_0 : decode cX5_standsHere 0 = .ok (.aload_n 0, 1) := by decide +kernel
theorem dX5_standsHere_1 : decode cX5_standsHere 1 = .ok (.getfield 26, 3) := by decide +kernel
theorem dX5_standsHere_4 : decode cX5_standsHere 4 = .ok (.aload_n 0, 1) := by decide +kernel
theorem dX5_standsHere_5 : decode cX5_standsHere 5 = .ok (.getfield 22, 3) := by decide +kernel
theorem dX5_standsHere_8 : decode cX5_standsHere 8 = .ok (.if_icmp .ge 20, 3) := by decide +kernel
theorem dX5_standsHere_11 : decode cX5_standsHere 11 = .ok (.aload_n 0, 1) := by decide +kernel
theorem dX5_standsHere_12 : decode cX5_standsHere 12 = .ok (.getfield 18, 3) := by decide +kernel
theorem dX5_standsHere_15 : decode cX5_standsHere 15 = .ok (.aload_n 0, 1) := by decide +kernel
theorem dX5_standsHere_16 : decode cX5_standsHere 16 = .ok (.getfield 26, 3) := by decide +kernel
theorem dX5_standsHere_19 : decode cX5_standsHere 19 = .ok (.iaload, 1) := by decide +kernel
theorem dX5_standsHere_20 : decode cX5_standsHere 20 = .ok (.iload_n 1, 1) := by decide +kernel
theorem dX5_standsHere_21 : decode cX5_standsHere 21 = .ok (.if_icmp .ne 7, 3) := by decide +kernel
theorem dX5_standsHere_24 : decode cX5_standsHere 24 = .ok (.iconst 1, 1) := by decide +kernel
theorem dX5_standsHere_25 : decode cX5_standsHere 25 = .ok (.goto 4, 3) := by decide +kernel
theorem dX5_standsHere_28 : decode cX5_standsHere 28 = .ok (.iconst 0, 1) := by decide +kernel
theorem dX5_standsHere_29 : decode cX5_standsHere 29 = .ok (.ireturn, 1) := by decide +kernel
theorem dX5_takeByte_0 : decode cX5_takeByte 0 = .ok (.aload_n 0, 1) := by decide +kernel
theorem dX5_takeByte_1 : decode cX5_takeByte 1 = .ok (.iload_n 1, 1) := by decide +kernel
theorem dX5_takeByte_2 : decode cX5_takeByte 2 = .ok (.invokevirtual 65, 3) := by decide +kernel
theorem dX5_takeByte_5 : decode cX5_takeByte 5 = .ok (.ifCond .ne 9, 3) := by decide +kernel
theorem dX5_takeByte_8 : decode cX5_takeByte 8 = .ok (.aload_n 0, 1) := by decide +kernel
theorem dX5_takeByte_9 : decode cX5_takeByte 9 = .ok (.iconst 1, 1) := by decide +kernel
theorem dX5_takeByte_10 : decode cX5_takeByte 10 = .ok (.invokevirtual 68, 3) := by decide +kernel
theorem dX5_takeByte_13 : decode cX5_takeByte 13 = .ok (.ireturn, 1) := by decide +kernel
theorem dX5_takeByte_14 : decode cX5_takeByte 14 = .ok (.aload_n 0, 1) := by decide +kernel
theorem dX5_takeByte_15 : decode cX5_takeByte 15 = .ok (.dup, 1) := by decide +kernel
theorem dX5_takeByte_16 : decode cX5_takeByte 16 = .ok (.getfield 26, 3) := by decide +kernel
theorem dX5_takeByte_19 : decode cX5_takeByte 19 = .ok (.iconst 1, 1) := by decide +kernel
theorem dX5_takeByte_20 : decode cX5_takeByte 20 = .ok (.iadd, 1) := by decide +kernel
theorem dX5_takeByte_21 : decode cX5_takeByte 21 = .ok (.putfield 26, 3) := by decide +kernel
theorem dX5_takeByte_24 : decode cX5_takeByte 24 = .ok (.iconst 1, 1) := by decide +kernel
theorem dX5_takeByte_25 : decode cX5_takeByte 25 = .ok (.ireturn, 1) := by decide +kernel
theorem dX5_takeNumber_0 : decode cX5_takeNumber 0 = .ok (.iconst 0, 1) := by decide +kernel
theorem dX5_takeNumber_1 : decode cX5_takeNumber 1 = .ok (.istore_n 3, 1) := by decide +kernel
theorem dX5_takeNumber_2 : decode cX5_takeNumber 2 = .ok (.iconst 0, 1) := by decide +kernel
theorem dX5_takeNumber_3 : decode cX5_takeNumber 3 = .ok (.istore 4, 2) := by decide +kernel
theorem dX5_takeNumber_5 : decode cX5_takeNumber 5 = .ok (.aload_n 0, 1) := by decide +kernel
theorem dX5_takeNumber_6 : decode cX5_takeNumber 6 = .ok (.getfield 26, 3) := by decide +kernel
theorem dX5_takeNumber_9 : decode cX5_takeNumber 9 = .ok (.istore 5, 2) := by decide +kernel
theorem dX5_takeNumber_11 : decode cX5_takeNumber 11 = .ok (.iload 5, 2) := by decide +kernel
theorem dX5_takeNumber_13 : decode cX5_takeNumber 13 = .ok (.aload_n 0, 1) := by decide +kernel
theorem dX5_takeNumber_14 : decode cX5_takeNumber 14 = .ok (.getfield 22, 3) := by decide +kernel
theorem dX5_takeNumber_17 : decode cX5_takeNumber 17 = .ok (.if_icmp .ge 47, 3) := by decide +kernel
theorem dX5_takeNumber_20 : decode cX5_takeNumber 20 = .ok (.aload_n 0, 1) := by decide +kernel
theorem dX5_takeNumber_21 : decode cX5_takeNumber 21 = .ok (.getfield 18, 3) := by decide +kernel
theorem dX5_takeNumber_24 : decode cX5_takeNumber 24 = .ok (.iload 5, 2) := by decide +kernel
theorem dX5_takeNumber_26 : decode cX5_takeNumber 26 = .ok (.iaload, 1) := by decide +kernel
theorem dX5_takeNumber_27 : decode cX5_takeNumber 27 = .ok (.invokestatic 96, 3) := by decide +kernel
theorem dX5_takeNumber_30 : decode cX5_takeNumber 30 = .ok (.ifCond .eq 34, 3) := by decide +kernel
theorem dX5_takeNumber_33 : decode cX5_takeNumber 33 = .ok (.iload 4, 2) := by decide +kernel
theorem dX5_takeNumber_35 : decode cX5_takeNumber 35 = .ok (.iconst 2, 1) := by decide +kernel
theorem dX5_takeNumber_36 : decode cX5_takeNumber 36 = .ok (.if_icmp .gt 28, 3) := by decide +kernel
theorem dX5_takeNumber_39 : decode cX5_takeNumber 39 = .ok (.iload_n 3, 1) := by decide +kernel
theorem dX5_takeNumber_40 : decode cX5_takeNumber 40 = .ok (.bipush 10, 2) := by decide +kernel
theorem dX5_takeNumber_42 : decode cX5_takeNumber 42 = .ok (.imul, 1) := by decide +kernel
theorem dX5_takeNumber_43 : decode cX5_takeNumber 43 = .ok (.aload_n 0, 1) := by decide +kernel
theorem dX5_takeNumber_44 : decode cX5_takeNumber 44 = .ok (.getfield 18, 3) := by decide +kernel
theorem dX5_takeNumber_47 : decode cX5_takeNumber 47 = .ok (.iload 5, 2) := by decide +kernel
theorem dX5_takeNumber_49 : decode cX5_takeNumber 49 = .ok (.iaload, 1) := by decide +kernel
theorem dX5_takeNumber_50 : decode cX5_takeNumber 50 = .ok (.iadd, 1) := by decide +kernel
theorem dX5_takeNumber_51 : decode cX5_takeNumber 51 = .ok (.bipush 48, 2) := by decide +kernel
theorem dX5_takeNumber_53 : decode cX5_takeNumber 53 = .ok (.isub, 1) := by decide +kernel
theorem dX5_takeNumber_54 : decode cX5_takeNumber 54 = .ok (.istore_n 3, 1) := by decide +kernel
theorem dX5_takeNumber_55 : decode cX5_takeNumber 55 = .ok (.iinc 4 1, 3) := by decide +kernel
theorem dX5_takeNumber_58 : decode cX5_takeNumber 58 = .ok (.iinc 5 1, 3) := by decide +kernel
theorem dX5_takeNumber_61 : decode cX5_takeNumber 61 = .ok (.goto (-50), 3) := by decide +kernel
theorem dX5_takeNumber_64 : decode cX5_takeNumber 64 = .ok (.iload 4, 2) := by decide +kernel
theorem dX5_takeNumber_66 : decode cX5_takeNumber 66 = .ok (.ifCond .eq 9, 3) := by decide +kernel
theorem dX5_takeNumber_69 : decode cX5_takeNumber 69 = .ok (.iload 4, 2) := by decide +kernel
theorem dX5_takeNumber_71 : decode cX5_takeNumber 71 = .ok (.iconst 2, 1) := by decide +kernel
theorem dX5_takeNumber_72 : decode cX5_takeNumber 72 = .ok (.if_icmp .le 11, 3) := by decide +kernel
theorem dX5_takeNumber_75 : decode cX5_takeNumber 75 = .ok (.aload_n 0, 1) := by decide +kernel
theorem dX5_takeNumber_76 : decode cX5_takeNumber 76 = .ok (.iconst 1, 1) := by decide +kernel
theorem dX5_takeNumber_77 : decode cX5_takeNumber 77 = .ok (.invokevirtual 68, 3) := by decide +kernel
theorem dX5_takeNumber_80 : decode cX5_takeNumber 80 = .ok (.pop, 1) := by decide +kernel
theorem dX5_takeNumber_81 : decode cX5_takeNumber 81 = .ok (.iconst (-1), 1) := by decide +kernel
theorem dX5_takeNumber_82 : decode cX5_takeNumber 82 = .ok (.ireturn, 1) := by decide +kernel
theorem dX5_takeNumber_83 : decode cX5_takeNumber 83 = .ok (.iload_n 3, 1) := by decide +kernel
theorem dX5_takeNumber_84 : decode cX5_takeNumber 84 = .ok (.iload_n 1, 1) := by decide +kernel
theorem dX5_takeNumber_85 : decode cX5_takeNumber 85 = .ok (.iload_n 2, 1) := by decide +kernel
theorem dX5_takeNumber_86 : decode cX5_takeNumber 86 = .ok (.invokestatic 99, 3) := by decide +kernel
theorem dX5_takeNumber_89 : decode cX5_takeNumber 89 = .ok (.ifCond .ne 11, 3) := by decide +kernel
theorem dX5_takeNumber_92 : decode cX5_takeNumber 92 = .ok (.aload_n 0, 1) := by decide +kernel
theorem dX5_takeNumber_93 : decode cX5_takeNumber 93 = .ok (.iconst 2, 1) := by decide +kernel
theorem dX5_takeNumber_94 : decode cX5_takeNumber 94 = .ok (.invokevirtual 68, 3) := by decide +kernel
theorem dX5_takeNumber_97 : decode cX5_takeNumber 97 = .ok (.pop, 1) := by decide +kernel
theorem dX5_takeNumber_98 : decode cX5_takeNumber 98 = .ok (.iconst (-1), 1) := by decide +kernel
theorem dX5_takeNumber_99 : decode cX5_takeNumber 99 = .ok (.ireturn, 1) := by decide +kernel
theorem dX5_takeNumber_100 : decode cX5_takeNumber 100 = .ok (.aload_n 0, 1) := by decide +kernel
theorem dX5_takeNumber_101 : decode cX5_takeNumber 101 = .ok (.dup, 1) := by decide +kernel
theorem dX5_takeNumber_102 : decode cX5_takeNumber 102 = .ok (.getfield 26, 3) := by decide +kernel
theorem dX5_takeNumber_105 : decode cX5_takeNumber 105 = .ok (.iload 4, 2) := by decide +kernel
theorem dX5_takeNumber_107 : decode cX5_takeNumber 107 = .ok (.iadd, 1) := by decide +kernel
theorem dX5_takeNumber_108 : decode cX5_takeNumber 108 = .ok (.putfield 26, 3) := by decide +kernel
theorem dX5_takeNumber_111 : decode cX5_takeNumber 111 = .ok (.iload_n 3, 1) := by decide +kernel
theorem dX5_takeNumber_112 : decode cX5_takeNumber 112 = .ok (.ireturn, 1) := by decide +kernel
theorem dX5_refuse_0 : decode cX5_refuse 0 = .ok (.aload_n 0, 1) := by decide +kernel
theorem dX5_refuse_1 : decode cX5_refuse 1 = .ok (.iload_n 1, 1) := by decide +kernel
theorem dX5_refuse_2 : decode cX5_refuse 2 = .ok (.putfield 29, 3) := by decide +kernel
theorem dX5_refuse_5 : decode cX5_refuse 5 = .ok (.iconst 0, 1) := by decide +kernel
theorem dX5_refuse_6 : decode cX5_refuse 6 = .ok (.ireturn, 1) := by decide +kernel
theorem dX5_isFigure_0 : decode cX5_isFigure 0 = .ok (.iload_n 0, 1) := by decide +kernel
theorem dX5_isFigure_1 : decode cX5_isFigure 1 = .ok (.bipush 48, 2) := by decide +kernel
theorem dX5_isFigure_3 : decode cX5_isFigure 3 = .ok (.bipush 57, 2) := by decide +kernel
theorem dX5_isFigure_5 : decode cX5_isFigure 5 = .ok (.invokestatic 99, 3) := by decide +kernel
theorem dX5_isFigure_8 : decode cX5_isFigure 8 = .ok (.ireturn, 1) := by decide +kernel
theorem dX5_kindOfLetter_0 : decode cX5_kindOfLetter 0 = .ok (.iload_n 0, 1) := by decide +kernel
theorem dX5_kindOfLetter_1 : decode cX5_kindOfLetter 1 = .ok (.lookupswitch 61 #[(98, 59), (108, 51), (111, 53), (115, 55), (116, 57)], 51) := by decide +kernel
theorem dX5_kindOfLetter_52 : decode cX5_kindOfLetter 52 = .ok (.iconst 1, 1) := by decide +kernel
theorem dX5_kindOfLetter_53 : decode cX5_kindOfLetter 53 = .ok (.ireturn, 1) := by decide +kernel
theorem dX5_kindOfLetter_54 : decode cX5_kindOfLetter 54 = .ok (.iconst 2, 1) := by decide +kernel
theorem dX5_kindOfLetter_55 : decode cX5_kindOfLetter 55 = .ok (.ireturn, 1) := by decide +kernel
theorem dX5_kindOfLetter_56 : decode cX5_kindOfLetter 56 = .ok (.iconst 3, 1) := by decide +kernel
theorem dX5_kindOfLetter_57 : decode cX5_kindOfLetter 57 = .ok (.ireturn, 1) := by decide +kernel
theorem dX5_kindOfLetter_58 : decode cX5_kindOfLetter 58 = .ok (.iconst 4, 1) := by decide +kernel
theorem dX5_kindOfLetter_59 : decode cX5_kindOfLetter 59 = .ok (.ireturn, 1) := by decide +kernel
theorem dX5_kindOfLetter_60 : decode cX5_kindOfLetter 60 = .ok (.iconst 5, 1) := by decide +kernel
theorem dX5_kindOfLetter_61 : decode cX5_kindOfLetter 61 = .ok (.ireturn, 1) := by decide +kernel
theorem dX5_kindOfLetter_62 : decode cX5_kindOfLetter 62 = .ok (.iconst 0, 1) := by decide +kernel
theorem dX5_kindOfLetter_63 : decode cX5_kindOfLetter 63 = .ok (.ireturn, 1) := by decide +kernel
theorem dX6_init_0 : decode cX6_init 0 = .ok (.aload_n 0, 1) := by decide +kernel
theorem dX6_init_1 : decode cX6_init 1 = .ok (.invokespecial 1, 3) := by decide +kernel
theorem dX6_init_4 : decode cX6_init 4 = .ok (.aload_n 0, 1) := by decide +kernel
theorem dX6_init_5 : decode cX6_init 5 = .ok (.new 7, 3) := by decide +kernel
theorem dX6_init_8 : decode cX6_init 8 = .ok (.dup, 1) := by decide +kernel
theorem dX6_init_9 : decode cX6_init 9 = .ok (.invokespecial 9, 3) := by decide +kernel
theorem dX6_init_12 : decode cX6_init 12 = .ok (.putfield 10, 3) := by decide +kernel
theorem dX6_init_15 : decode cX6_init 15 = .ok (.aload_n 0, 1) := by decide +kernel
theorem dX6_init_16 : decode cX6_init 16 = .ok (.new 16, 3) := by decide +kernel
theorem dX6_init_19 : decode cX6_init 19 = .ok (.dup, 1) := by decide +kernel
theorem dX6_init_20 : decode cX6_init 20 = .ok (.invokespecial 18, 3) := by decide +kernel
theorem dX6_init_23 : decode cX6_init 23 = .ok (.putfield 19, 3) := by decide +kernel
theorem dX6_init_26 : decode cX6_init 26 = .ok (.aload_n 0, 1) := by decide +kernel
theorem dX6_init_27 : decode cX6_init 27 = .ok (.new 23, 3) := by decide +kernel
theorem dX6_init_30 : decode cX6_init 30 = .ok (.dup, 1) := by decide +kernel
theorem dX6_init_31 : decode cX6_init 31 = .ok (.invokespecial 25, 3) := by decide +kernel
theorem dX6_init_34 : decode cX6_init 34 = .ok (.putfield 26, 3) := by decide +kernel
theorem dX6_init_37 : decode cX6_init 37 = .ok (.aload_n 0, 1) := by decide +kernel
theorem dX6_init_38 : decode cX6_init 38 = .ok (.new 30, 3) := by decide +kernel
theorem dX6_init_41 : decode cX6_init 41 = .ok (.dup, 1) := by decide +kernel
theorem dX6_init_42 : decode cX6_init 42 = .ok (.invokespecial 32, 3) := by decide +kernel
theorem dX6_init_45 : decode cX6_init 45 = .ok (.putfield 33, 3) := by decide +kernel
theorem dX6_init_48 : decode cX6_init 48 = .ok (.aload_n 0, 1) := by decide +kernel
theorem dX6_init_49 : decode cX6_init 49 = .ok (.iconst 2, 1) := by decide +kernel
theorem dX6_init_50 : decode cX6_init 50 = .ok (.anewarray 23, 3) := by decide +kernel
theorem dX6_init_53 : decode cX6_init 53 = .ok (.dup, 1) := by decide +kernel
theorem dX6_init_54 : decode cX6_init 54 = .ok (.iconst 0, 1) := by decide +kernel
theorem dX6_init_55 : decode cX6_init 55 = .ok (.new 23, 3) := by decide +kernel
theorem dX6_init_58 : decode cX6_init 58 = .ok (.dup, 1) := by decide +kernel
theorem dX6_init_59 : decode cX6_init 59 = .ok (.invokespecial 25, 3) := by decide +kernel
theorem dX6_init_62 : decode cX6_init 62 = .ok (.aastore, 1) := by decide +kernel
theorem dX6_init_63 : decode cX6_init 63 = .ok (.dup, 1) := by decide +kernel
theorem dX6_init_64 : decode cX6_init 64 = .ok (.iconst 1, 1) := by decide +kernel
theorem dX6_init_65 : decode cX6_init 65 = .ok (.new 23, 3) := by decide +kernel
theorem dX6_init_68 : decode cX6_init 68 = .ok (.dup, 1) := by decide +kernel
theorem dX6_init_69 : decode cX6_init 69 = .ok (.invokespecial 25, 3) := by decide +kernel
theorem dX6_init_72 : decode cX6_init 72 = .ok (.aastore, 1) := by decide +kernel
theorem dX6_init_73 : decode cX6_init 73 = .ok (.putfield 37, 3) := by decide +kernel
theorem dX6_init_76 : decode cX6_init 76 = .ok (.aload_n 0, 1) := by decide +kernel
theorem dX6_init_77 : decode cX6_init 77 = .ok (.new 41, 3) := by decide +kernel
theorem dX6_init_80 : decode cX6_init 80 = .ok (.dup, 1) := by decide +kernel
theorem dX6_init_81 : decode cX6_init 81 = .ok (.invokespecial 43, 3) := by decide +kernel
theorem dX6_init_84 : decode cX6_init 84 = .ok (.putfield 44, 3) := by decide +kernel
theorem dX6_init_87 : decode cX6_init 87 = .ok (.aload_n 0, 1) := by decide +kernel
theorem dX6_init_88 : decode cX6_init 88 = .ok (.new 48, 3) := by decide +kernel
theorem dX6_init_91 : decode cX6_init 91 = .ok (.dup, 1) := by decide +kernel
theorem dX6_init_92 : decode cX6_init 92 = .ok (.invokespecial 50, 3) := by decide +kernel
theorem dX6_init_95 : decode cX6_init 95 = .ok (.putfield 51, 3) := by decide +kernel
theorem dX6_init_98 : decode cX6_init 98 = .ok (.aload_n 0, 1) := by decide +kernel
theorem dX6_init_99 : decode cX6_init 99 = .ok (.iconst 0, 1) := by decide +kernel
theorem dX6_init_100 : decode cX6_init 100 = .ok (.putfield 55, 3) := by decide +kernel
theorem dX6_init_103 : decode cX6_init 103 = .ok (.return_, 1) := by decide +kernel
theorem dX6_row_0 : decode cX6_row 0 = .ok (.iload_n 1, 1) := by decide +kernel
theorem dX6_row_1 : decode cX6_row 1 = .ok (.invokestatic 59, 3) := by decide +kernel
theorem dX6_row_4 : decode cX6_row 4 = .ok (.ifCond .eq 18, 3) := by decide +kernel
theorem dX6_row_7 : decode cX6_row 7 = .ok (.iload_n 2, 1) := by decide +kernel
theorem dX6_row_8 : decode cX6_row 8 = .ok (.iconst 0, 1) := by decide +kernel
theorem dX6_row_9 : decode cX6_row 9 = .ok (.iconst 2, 1) := by decide +kernel
theorem dX6_row_10 : decode cX6_row 10 = .ok (.invokestatic 63, 3) := by decide +kernel
theorem dX6_row_13 : decode cX6_row 13 = .ok (.ifCond .eq 9, 3) := by decide +kernel
theorem dX6_row_16 : decode cX6_row 16 = .ok (.iload_n 3, 1) := by decide +kernel
theorem dX6_row_17 : decode cX6_row 17 = .ok (.bipush 40, 2) := by decide +kernel
theorem dX6_row_19 : decode cX6_row 19 = .ok (.if_icmp .le 6, 3) := by decide +kernel
theorem dX6_row_22 : decode cX6_row 22 = .ok (.ldc 67, 2) := by decide +kernel
theorem dX6_row_24 : decode cX6_row 24 = .ok (.ireturn, 1) := by decide +kernel
theorem dX6_row_25 : decode cX6_row 25 = .ok (.iload_n 3, 1) := by decide +kernel
theorem dX6_row_26 : decode cX6_row 26 = .ok (.ifCond .ge 9, 3) := by decide +kernel
theorem dX6_row_29 : decode cX6_row 29 = .ok (.aload_n 0, 1) := by decide +kernel
theorem dX6_row_30 : decode cX6_row 30 = .ok (.iconst 4, 1) := by decide +kernel
theorem dX6_row_31 : decode cX6_row 31 = .ok (.invokevirtual 68, 3) := by decide +kernel
theorem dX6_row_34 : decode cX6_row 34 = .ok (.ireturn, 1) := by decide +kernel
theorem dX6_row_35 : decode cX6_row 35 = .ok (.aload_n 0, 1) := by decide +kernel
theorem dX6_row_36 : decode cX6_row 36 = .ok (.getfield 10, 3) := by decide +kernel
theorem dX6_row_39 : decode cX6_row 39 = .ok (.iload_n 1, 1) := by decide +kernel
theorem dX6_row_40 : decode cX6_row 40 = .ok (.iload_n 2, 1) := by decide +kernel
theorem dX6_row_41 : decode cX6_row 41 = .ok (.iload_n 3, 1) := by decide +kernel
theorem dX6_row_42 : decode cX6_row 42 = .ok (.invokevirtual 72, 3) := by decide +kernel
theorem dX6_row_45 : decode cX6_row 45 = .ok (.aload_n 0, 1) := by decide +kernel
theorem dX6_row_46 : decode cX6_row 46 = .ok (.iload_n 3, 1) := by decide +kernel
theorem dX6_row_47 : decode cX6_row 47 = .ok (.invokevirtual 76, 3) := by decide +kernel
theorem dX6_row_50 : decode cX6_row 50 = .ok (.ireturn, 1) := by decide +kernel
theorem dX6_set_0 : decode cX6_set 0 = .ok (.iload_n 1, 1) := by decide +kernel
theorem dX6_set_1 : decode cX6_set 1 = .ok (.invokestatic 59, 3) := by decide +kernel
theorem dX6_set_4 : decode cX6_set 4 = .ok (.ifCond .ne 6, 3) := by decide +kernel
theorem dX6_set_7 : decode cX6_set 7 = .ok (.ldc 67, 2) := by decide +kernel
theorem dX6_set_9 : decode cX6_set 9 = .ok (.ireturn, 1) := by decide +kernel
theorem dX6_set_10 : decode cX6_set 10 = .ok (.aload_n 0, 1) := by decide +kernel
theorem dX6_set_11 : decode cX6_set 11 = .ok (.getfield 10, 3) := by decide +kernel
theorem dX6_set_14 : decode cX6_set 14 = .ok (.iload_n 1, 1) := by decide +kernel
theorem dX6_set_15 : decode cX6_set 15 = .ok (.invokevirtual 79, 3) := by decide +kernel
theorem dX6_set_18 : decode cX6_set 18 = .ok (.ifCond .eq 9, 3) := by decide +kernel
theorem dX6_set_21 : decode cX6_set 21 = .ok (.aload_n 0, 1) := by decide +kernel
theorem dX6_set_22 : decode cX6_set 22 = .ok (.iconst 1, 1) := by decide +kernel
theorem dX6_set_23 : decode cX6_set 23 = .ok (.invokevirtual 68, 3) := by decide +kernel
theorem dX6_set_26 : decode cX6_set 26 = .ok (.ireturn, 1) := by decide +kernel
theorem dX6_set_27 : decode cX6_set 27 = .ok (.aload_n 0, 1) := by decide +kernel
theorem dX6_set_28 : decode cX6_set 28 = .ok (.getfield 10, 3) := by decide +kernel
theorem dX6_set_31 : decode cX6_set 31 = .ok (.iload_n 1, 1) := by decide +kernel
theorem dX6_set_32 : decode cX6_set 32 = .ok (.iload_n 2, 1) := by decide +kernel
theorem dX6_set_33 : decode cX6_set 33 = .ok (.iconst 1, 1) := by decide +kernel
theorem dX6_set_34 : decode cX6_set 34 = .ok (.invokevirtual 82, 3) := by decide +kernel
theorem dX6_set_37 : decode cX6_set 37 = .ok (.ifCond .ne 9, 3) := by decide +kernel
theorem dX6_set_40 : decode cX6_set 40 = .ok (.aload_n 0, 1) := by decide +kernel
theorem dX6_set_41 : decode cX6_set 41 = .ok (.iconst 2, 1) := by decide +kernel
theorem dX6_set_42 : decode cX6_set 42 = .ok (.invokevirtual 68, 3) := by decide +kernel
theorem dX6_set_45 : decode cX6_set 45 = .ok (.ireturn, 1) := by decide +kernel
theorem dX6_set_46 : decode cX6_set 46 = .ok (.aload_n 0, 1) := by decide +kernel
theorem dX6_set_47 : decode cX6_set 47 = .ok (.aload_n 0, 1) := by decide +kernel
theorem dX6_set_48 : decode cX6_set 48 = .ok (.getfield 10, 3) := by decide +kernel
theorem dX6_set_51 : decode cX6_set 51 = .ok (.iload_n 1, 1) := by decide +kernel
theorem dX6_set_52 : decode cX6_set 52 = .ok (.iload_n 2, 1) := by decide +kernel
theorem dX6_set_53 : decode cX6_set 53 = .ok (.iload_n 3, 1) := by decide +kernel
theorem dX6_set_54 : decode cX6_set 54 = .ok (.invokevirtual 85, 3) := by decide +kernel
theorem dX6_set_57 : decode cX6_set 57 = .ok (.invokevirtual 76, 3) := by decide +kernel
theorem dX6_set_60 : decode cX6_set 60 = .ok (.ireturn, 1) := by decide +kernel
theorem dX6_copy_0 : decode cX6_copy 0 = .ok (.iload_n 1, 1) := by decide +kernel
theorem dX6_copy_1 : decode cX6_copy 1 = .ok (.invokestatic 59, 3) := by decide +kernel
theorem dX6_copy_4 : decode cX6_copy 4 = .ok (.ifCond .eq 10, 3) := by decide +kernel
theorem dX6_copy_7 : decode cX6_copy 7 = .ok (.iload_n 3, 1) := by decide +kernel
theorem dX6_copy_8 : decode cX6_copy 8 = .ok (.invokestatic 59, 3) := by decide +kernel
theorem dX6_copy_11 : decode cX6_copy 11 = .ok (.ifCond .ne 6, 3) := by decide +kernel
theorem dX6_copy_14 : decode cX6_copy 14 = .ok (.ldc 67, 2) := by decide +kernel
theorem dX6_copy_16 : decode cX6_copy 16 = .ok (.ireturn, 1) := by decide +kernel
theorem dX6_copy_17 : decode cX6_copy 17 = .ok (.aload_n 0, 1) := by decide +kernel
theorem dX6_copy_18 : decode cX6_copy 18 = .ok (.getfield 10, 3) := by decide +kernel
theorem dX6_copy_21 : decode cX6_copy 21 = .ok (.iload_n 1, 1) := by decide +kernel
theorem dX6_copy_22 : decode cX6_copy 22 = .ok (.invokevirtual 79, 3) := by decide +kernel
theorem dX6_copy_25 : decode cX6_copy 25 = .ok (.ifCond .ne 14, 3) := by decide +kernel
theorem dX6_copy_28 : decode cX6_copy 28 = .ok (.aload_n 0, 1) := by decide +kernel
theorem dX6_copy_29 : decode cX6_copy 29 = .ok (.getfield 10, 3) := by decide +kernel
theorem dX6_copy_32 : decode cX6_copy 32 = .ok (.iload_n 3, 1) := by decide +kernel
theorem dX6_copy_33 : decode cX6_copy 33 = .ok (.invokevirtual 79, 3) := by decide +kernel
theorem dX6_copy_36 : decode cX6_copy 36 = .ok (.ifCond .eq 9, 3) := by decide +kernel
theorem dX6_copy_39 : decode cX6_copy 39 = .ok (.aload_n 0, 1) := by decide +kernel
theorem dX6_copy_40 : decode cX6_copy 40 = .ok (.iconst 1, 1) := by decide +kernel
theorem dX6_copy_41 : decode cX6_copy 41 = .ok (.invokevirtual 68, 3) := by decide +kernel
theorem dX6_copy_44 : decode cX6_copy 44 = .ok (.ireturn, 1) := by decide +kernel
theorem dX6_copy_45 : decode cX6_copy 45 = .ok (.aload_n 0, 1) := by decide +kernel
theorem dX6_copy_46 : decode cX6_copy 46 = .ok (.getfield 10, 3) := by decide +kernel
theorem dX6_copy_49 : decode cX6_copy 49 = .ok (.getfield 89, 3) := by decide +kernel
theorem dX6_copy_52 : decode cX6_copy 52 = .ok (.iload_n 1, 1) := by decide +kernel
theorem dX6_copy_53 : decode cX6_copy 53 = .ok (.iaload, 1) := by decide +kernel
theorem dX6_copy_54 : decode cX6_copy 54 = .ok (.aload_n 0, 1) := by decide +kernel
theorem dX6_copy_55 : decode cX6_copy 55 = .ok (.getfield 10, 3) := by decide +kernel
theorem dX6_copy_58 : decode cX6_copy 58 = .ok (.getfield 89, 3) := by decide +kernel
theorem dX6_copy_61 : decode cX6_copy 61 = .ok (.iload_n 3, 1) := by decide +kernel
theorem dX6_copy_62 : decode cX6_copy 62 = .ok (.iaload, 1) := by decide +kernel
theorem dX6_copy_63 : decode cX6_copy 63 = .ok (.if_icmp .eq 9, 3) := by decide +kernel
theorem dX6_copy_66 : decode cX6_copy 66 = .ok (.aload_n 0, 1) := by decide +kernel
theorem dX6_copy_67 : decode cX6_copy 67 = .ok (.iconst 5, 1) := by decide +kernel
theorem dX6_copy_68 : decode cX6_copy 68 = .ok (.invokevirtual 68, 3) := by decide +kernel
theorem dX6_copy_71 : decode cX6_copy 71 = .ok (.ireturn, 1) := by decide +kernel
theorem dX6_copy_72 : decode cX6_copy 72 = .ok (.aload_n 0, 1) := by decide +kernel
theorem dX6_copy_73 : decode cX6_copy 73 = .ok (.getfield 10, 3) := by decide +kernel
theorem dX6_copy_76 : decode cX6_copy 76 = .ok (.iload_n 1, 1) := by decide +kernel
theorem dX6_copy_77 : decode cX6_copy 77 = .ok (.iload_n 2, 1) := by decide +kernel
theorem dX6_copy_78 : decode cX6_copy 78 = .ok (.iload 5, 2) := by decide +kernel
theorem dX6_copy_80 : decode cX6_copy 80 = .ok (.invokevirtual 82, 3) := by decide +kernel
theorem dX6_copy_83 : decode cX6_copy 83 = .ok (.ifCond .eq 18, 3) := by decide +kernel
theorem dX6_copy_86 : decode cX6_copy 86 = .ok (.aload_n 0, 1) := by decide +kernel
theorem dX6_copy_87 : decode cX6_copy 87 = .ok (.getfield 10, 3) := by decide +kernel
theorem dX6_copy_90 : decode cX6_copy 90 = .ok (.iload_n 3, 1) := by decide +kernel
theorem dX6_copy_91 : decode cX6_copy 91 = .ok (.iload 4, 2) := by decide +kernel
theorem dX6_copy_93 : decode cX6_copy 93 = .ok (.iload 5, 2) := by decide +kernel
theorem dX6_copy_95 : decode cX6_copy 95 = .ok (.invokevirtual 82, 3) := by decide +kernel
theorem dX6_copy_98 : decode cX6_copy 98 = .ok (.ifCond .ne 9, 3) := by decide +kernel
theorem dX6_copy_101 : decode cX6_copy 101 = .ok (.aload_n 0, 1) := by decide +kernel
theorem dX6_copy_102 : decode cX6_copy 102 = .ok (.iconst 2, 1) := by decide +kernel
theorem dX6_copy_103 : decode cX6_copy 103 = .ok (.invokevirtual 68, 3) := by decide +kernel
theorem dX6_copy_106 : decode cX6_copy 106 = .ok (.ireturn, 1) := by decide +kernel
theorem dX6_copy_107 : decode cX6_copy 107 = .ok (.aload_n 0, 1) := by decide +kernel
theorem dX6_copy_108 : decode cX6_copy 108 = .ok (.getfield 10, 3) := by decide +kernel
theorem dX6_copy_111 : decode cX6_copy 111 = .ok (.getfield 93, 3) := by decide +kernel
theorem dX6_copy_114 : decode cX6_copy 114 = .ok (.iload_n 1, 1) := by decide +kernel
theorem dX6_copy_115 : decode cX6_copy 115 = .ok (.invokestatic 96, 3) := by decide +kernel
theorem dX6_copy_118 : decode cX6_copy 118 = .ok (.iload_n 2, 1) := by decide +kernel
theorem dX6_copy_119 : decode cX6_copy 119 = .ok (.iadd, 1) := by decide +kernel
theorem dX6_copy_120 : decode cX6_copy 120 = .ok (.aload_n 0, 1) := by decide +kernel
theorem dX6_copy_121 : decode cX6_copy 121 = .ok (.getfield 10, 3) := by decide +kernel
theorem dX6_copy_124 : decode cX6_copy 124 = .ok (.getfield 93, 3) := by decide +kernel
theorem dX6_copy_127 : decode cX6_copy 127 = .ok (.iload_n 3, 1) := by decide +kernel
theorem dX6_copy_128 : decode cX6_copy 128 = .ok (.invokestatic 96, 3) := by decide +kernel
theorem dX6_copy_131 : decode cX6_copy 131 = .ok (.iload 4, 2) := by decide +kernel
theorem dX6_copy_133 : decode cX6_copy 133 = .ok (.iadd, 1) := by decide +kernel
theorem dX6_copy_134 : decode cX6_copy 134 = .ok (.iload 5, 2) := by decide +kernel
theorem dX6_copy_136 : decode cX6_copy 136 = .ok (.invokestatic 99, 3) := by decide +kernel
theorem dX6_copy_139 : decode cX6_copy 139 = .ok (.aload_n 0, 1) := by decide +kernel
theorem dX6_copy_140 : decode cX6_copy 140 = .ok (.iload 5, 2) := by decide +kernel
theorem dX6_copy_142 : decode cX6_copy 142 = .ok (.invokevirtual 76, 3) := by decide +kernel
theorem dX6_copy_145 : decode cX6_copy 145 = .ok (.ireturn, 1) := by decide +kernel
theorem dX6_drop_0 : decode cX6_drop 0 = .ok (.iload_n 1, 1) := by decide +kernel
theorem dX6_drop_1 : decode cX6_drop 1 = .ok (.invokestatic 59, 3) := by decide +kernel
theorem dX6_drop_4 : decode cX6_drop 4 = .ok (.ifCond .ne 6, 3) := by decide +kernel
theorem dX6_drop_7 : decode cX6_drop 7 = .ok (.ldc 67, 2) := by decide +kernel
theorem dX6_drop_9 : decode cX6_drop 9 = .ok (.ireturn, 1) := by decide +kernel
theorem dX6_drop_10 : decode cX6_drop 10 = .ok (.aload_n 0, 1) := by decide +kernel
theorem dX6_drop_11 : decode cX6_drop 11 = .ok (.getfield 10, 3) := by decide +kernel
theorem dX6_drop_14 : decode cX6_drop 14 = .ok (.iload_n 1, 1) := by decide +kernel
theorem dX6_drop_15 : decode cX6_drop 15 = .ok (.invokevirtual 79, 3) := by decide +kernel
theorem dX6_drop_18 : decode cX6_drop 18 = .ok (.ifCond .eq 9, 3) := by decide +kernel
theorem dX6_drop_21 : decode cX6_drop 21 = .ok (.aload_n 0, 1) := by decide +kernel
theorem dX6_drop_22 : decode cX6_drop 22 = .ok (.iconst 1, 1) := by decide +kernel
theorem dX6_drop_23 : decode cX6_drop 23 = .ok (.invokevirtual 68, 3) := by decide +kernel
theorem dX6_drop_26 : decode cX6_drop 26 = .ok (.ireturn, 1) := by decide +kernel
theorem dX6_drop_27 : decode cX6_drop 27 = .ok (.aload_n 0, 1) := by decide +kernel
theorem dX6_drop_28 : decode cX6_drop 28 = .ok (.aload_n 0, 1) := by decide +kernel
theorem dX6_drop_29 : decode cX6_drop 29 = .ok (.getfield 10, 3) := by decide +kernel
theorem dX6_drop_32 : decode cX6_drop 32 = .ok (.iload_n 1, 1) := by decide +kernel
theorem dX6_drop_33 : decode cX6_drop 33 = .ok (.invokevirtual 105, 3) := by decide +kernel
theorem dX6_drop_36 : decode cX6_drop 36 = .ok (.invokevirtual 76, 3) := by decide +kernel
theorem dX6_drop_39 : decode cX6_drop 39 = .ok (.ireturn, 1) := by decide +kernel
theorem dX6_feed_0 : decode cX6_feed 0 = .ok (.iload_n 1, 1) := by decide +kernel
theorem dX6_feed_1 : decode cX6_feed 1 = .ok (.iconst 0, 1) := by decide +kernel
theorem dX6_feed_2 : decode cX6_feed 2 = .ok (.sipush 255, 3) := by decide +kernel
theorem dX6_feed_5 : decode cX6_feed 5 = .ok (.invokestatic 63, 3) := by decide +kernel
theorem dX6_feed_8 : decode cX6_feed 8 = .ok (.ifCond .ne 6, 3) := by decide +kernel
theorem dX6_feed_11 : decode cX6_feed 11 = .ok (.ldc 67, 2) := by decide +kernel
theorem dX6_feed_13 : decode cX6_feed 13 = .ok (.ireturn, 1) := by decide +kernel
theorem dX6_feed_14 : decode cX6_feed 14 = .ok (.aload_n 0, 1) := by decide +kernel
theorem dX6_feed_15 : decode cX6_feed 15 = .ok (.getfield 19, 3) := by decide +kernel
theorem dX6_feed_18 : decode cX6_feed 18 = .ok (.invokevirtual 108, 3) := by decide +kernel
theorem dX6_feed_21 : decode cX6_feed 21 = .ok (.ifCond .eq 6, 3) := by decide +kernel
theorem dX6_feed_24 : decode cX6_feed 24 = .ok (.ldc 112, 2) := by decide +kernel
theorem dX6_feed_26 : decode cX6_feed 26 = .ok (.ireturn, 1) := by decide +kernel
theorem dX6_feed_27 : decode cX6_feed 27 = .ok (.aload_n 0, 1) := by decide +kernel
theorem dX6_feed_28 : decode cX6_feed 28 = .ok (.getfield 19, 3) := by decide +kernel
theorem dX6_feed_31 : decode cX6_feed 31 = .ok (.iload_n 1, 1) := by decide +kernel
theorem dX6_feed_32 : decode cX6_feed 32 = .ok (.invokevirtual 113, 3) := by decide +kernel
theorem dX6_feed_35 : decode cX6_feed 35 = .ok (.ireturn, 1) := by decide +kernel
theorem dX6_house_0 : decode cX6_house 0 = .ok (.aload_n 0, 1) := by decide +kernel
theorem dX6_house_1 : decode cX6_house 1 = .ok (.getfield 19, 3) := by decide +kernel
theorem dX6_house_4 : decode cX6_house 4 = .ok (.invokevirtual 115, 3) := by decide +kernel
theorem dX6_house_7 : decode cX6_house 7 = .ok (.istore_n 1, 1) := by decide +kernel
theorem dX6_house_8 : decode cX6_house 8 = .ok (.aload_n 0, 1) := by decide +kernel
theorem dX6_house_9 : decode cX6_house 9 = .ok (.getfield 19, 3) := by decide +kernel
theorem dX6_house_12 : decode cX6_house 12 = .ok (.iconst 0, 1) := by decide +kernel
theorem dX6_house_13 : decode cX6_house 13 = .ok (.putfield 118, 3) := by decide +kernel
theorem dX6_house_16 : decode cX6_house 16 = .ok (.iload_n 1, 1) := by decide +kernel
theorem dX6_house_17 : decode cX6_house 17 = .ok (.ifCond .ne 14, 3) := by decide +kernel
theorem dX6_house_20 : decode cX6_house 20 = .ok (.ldc 121, 2) := by decide +kernel
theorem dX6_house_22 : decode cX6_house 22 = .ok (.aload_n 0, 1) := by decide +kernel
theorem dX6_house_23 : decode cX6_house 23 = .ok (.getfield 19, 3) := by decide +kernel
theorem dX6_house_26 : decode cX6_house 26 = .ok (.getfield 122, 3) := by decide +kernel
theorem dX6_house_29 : decode cX6_house 29 = .ok (.isub, 1) := by decide +kernel
theorem dX6_house_30 : decode cX6_house 30 = .ok (.ireturn, 1) := by decide +kernel
theorem dX6_house_31 : decode cX6_house 31 = .ok (.aload_n 0, 1) := by decide +kernel
theorem dX6_house_32 : decode cX6_house 32 = .ok (.getfield 26, 3) := by decide +kernel
theorem dX6_house_35 : decode cX6_house 35 = .ok (.aload_n 0, 1) := by decide +kernel
theorem dX6_house_36 : decode cX6_house 36 = .ok (.getfield 19, 3) := by decide +kernel
theorem dX6_house_39 : decode cX6_house 39 = .ok (.getfield 125, 3) := by decide +kernel
theorem dX6_house_42 : decode cX6_house 42 = .ok (.invokevirtual 128, 3) := by decide +kernel
theorem dX6_house_45 : decode cX6_house 45 = .ok (.aload_n 0, 1) := by decide +kernel
theorem dX6_house_46 : decode cX6_house 46 = .ok (.getfield 33, 3) := by decide +kernel
theorem dX6_house_49 : decode cX6_house 49 = .ok (.invokevirtual 132, 3) := by decide +kernel
theorem dX6_house_52 : decode cX6_house 52 = .ok (.aload_n 0, 1) := by decide +kernel
theorem dX6_house_53 : decode cX6_house 53 = .ok (.getfield 26, 3) := by decide +kernel
theorem dX6_house_56 : decode cX6_house 56 = .ok (.getfield 135, 3) := by decide +kernel
theorem dX6_house_59 : decode cX6_house 59 = .ok (.ireturn, 1) := by decide +kernel
theorem dX6_fault_0 : decode cX6_fault 0 = .ok (.aload_n 0, 1) := by decide +kernel
theorem dX6_fault_1 : decode cX6_fault 1 = .ok (.getfield 19, 3) := by decide +kernel
theorem dX6_fault_4 : decode cX6_fault 4 = .ok (.getfield 138, 3) := by decide +kernel
theorem dX6_fault_7 : decode cX6_fault 7 = .ok (.ireturn, 1) := by decide +kernel
theorem dX6_days_0 : decode cX6_days 0 = .ok (.aload_n 0, 1) := by decide +kernel
theorem dX6_days_1 : decode cX6_days 1 = .ok (.getfield 26, 3) := by decide +kernel
theorem dX6_days_4 : decode cX6_days 4 = .ok (.invokevirtual 141, 3) := by decide +kernel
theorem dX6_days_7 : decode cX6_days 7 = .ok (.ifCond .ne 6, 3) := by decide +kernel
theorem dX6_days_10 : decode cX6_days 10 = .ok (.ldc 144, 2) := by decide +kernel
theorem dX6_days_12 : decode cX6_days 12 = .ok (.ireturn, 1) := by decide +kernel
theorem dX6_days_13 : decode cX6_days 13 = .ok (.iload_n 1, 1) := by decide +kernel
theorem dX6_days_14 : decode cX6_days 14 = .ok (.iconst 1, 1) := by decide +kernel
theorem dX6_days_15 : decode cX6_days 15 = .ok (.bipush 24, 2) := by decide +kernel
theorem dX6_days_17 : decode cX6_days 17 = .ok (.invokestatic 63, 3) := by decide +kernel
theorem dX6_days_20 : decode cX6_days 20 = .ok (.ifCond .ne 6, 3) := by decide +kernel
theorem dX6_days_23 : decode cX6_days 23 = .ok (.ldc 67, 2) := by decide +kernel
theorem dX6_days_25 : decode cX6_days 25 = .ok (.ireturn, 1) := by decide +kernel
theorem dX6_days_26 : decode cX6_days 26 = .ok (.aload_n 0, 1) := by decide +kernel
theorem dX6_days_27 : decode cX6_days 27 = .ok (.getfield 26, 3) := by decide +kernel
theorem dX6_days_30 : decode cX6_days 30 = .ok (.getfield 145, 3) := by decide +kernel
theorem dX6_days_33 : decode cX6_days 33 = .ok (.iload_n 1, 1) := by decide +kernel
theorem dX6_days_34 : decode cX6_days 34 = .ok (.iadd, 1) := by decide +kernel
theorem dX6_days_35 : decode cX6_days 35 = .ok (.sipush 9999, 3) := by decide +kernel
theorem dX6_days_38 : decode cX6_days 38 = .ok (.if_icmp .le 6, 3) := by decide +kernel
theorem dX6_days_41 : decode cX6_days 41 = .ok (.ldc 112, 2) := by decide +kernel
theorem dX6_days_43 : decode cX6_days 43 = .ok (.ireturn, 1) := by decide +kernel
theorem dX6_days_44 : decode cX6_days 44 = .ok (.iconst 0, 1) := by decide +kernel
theorem dX6_days_45 : decode cX6_days 45 = .ok (.istore_n 2, 1) := by decide +kernel
theorem dX6_days_46 : decode cX6_days 46 = .ok (.iload_n 2, 1) := by decide +kernel
theorem dX6_days_47 : decode cX6_days 47 = .ok (.iload_n 1, 1) := by decide +kernel
theorem dX6_days_48 : decode cX6_days 48 = .ok (.if_icmp .ge 27, 3) := by decide +kernel
theorem dX6_days_51 : decode cX6_days 51 = .ok (.aload_n 0, 1) := by decide +kernel
theorem dX6_days_52 : decode cX6_days 52 = .ok (.getfield 33, 3) := by decide +kernel
theorem dX6_days_55 : decode cX6_days 55 = .ok (.aload_n 0, 1) := by decide +kernel
theorem dX6_days_56 : decode cX6_days 56 = .ok (.getfield 26, 3) := by decide +kernel
theorem dX6_days_59 : decode cX6_days 59 = .ok (.invokevirtual 148, 3) := by decide +kernel
theorem dX6_days_62 : decode cX6_days 62 = .ok (.aload_n 0, 1) := by decide +kernel
theorem dX6_days_63 : decode cX6_days 63 = .ok (.getfield 26, 3) := by decide +kernel
theorem dX6_days_66 : decode cX6_days 66 = .ok (.invokevirtual 151, 3) := by decide +kernel
theorem dX6_days_69 : decode cX6_days 69 = .ok (.iinc 2 1, 3) := by decide +kernel
theorem dX6_days_72 : decode cX6_days 72 = .ok (.goto (-26), 3) := by decide +kernel
theorem dX6_days_75 : decode cX6_days 75 = .ok (.aload_n 0, 1) := by decide +kernel
theorem dX6_days_76 : decode cX6_days 76 = .ok (.getfield 26, 3) := by decide +kernel
theorem dX6_days_79 : decode cX6_days 79 = .ok (.invokevirtual 154, 3) := by decide +kernel
theorem dX6_days_82 : decode cX6_days 82 = .ok (.ireturn, 1) := by decide +kernel
theorem dX6_peg_0 : decode cX6_peg 0 = .ok (.aload_n 0, 1) := by decide +kernel
theorem dX6_peg_1 : decode cX6_peg 1 = .ok (.iload_n 1, 1) := by decide +kernel
theorem dX6_peg_2 : decode cX6_peg 2 = .ok (.invokevirtual 158, 3) := by decide +kernel
theorem dX6_peg_5 : decode cX6_peg 5 = .ok (.ifCond .eq 12, 3) := by decide +kernel
theorem dX6_peg_8 : decode cX6_peg 8 = .ok (.iload_n 2, 1) := by decide +kernel
theorem dX6_peg_9 : decode cX6_peg 9 = .ok (.iconst 0, 1) := by decide +kernel
theorem dX6_peg_10 : decode cX6_peg 10 = .ok (.iconst 1, 1) := by decide +kernel
theorem dX6_peg_11 : decode cX6_peg 11 = .ok (.invokestatic 63, 3) := by decide +kernel
theorem dX6_peg_14 : decode cX6_peg 14 = .ok (.ifCond .ne 6, 3) := by decide +kernel
theorem dX6_peg_17 : decode cX6_peg 17 = .ok (.ldc 67, 2) := by decide +kernel
theorem dX6_peg_19 : decode cX6_peg 19 = .ok (.ireturn, 1) := by decide +kernel
theorem dX6_peg_20 : decode cX6_peg 20 = .ok (.aload_n 0, 1) := by decide +kernel
theorem dX6_peg_21 : decode cX6_peg 21 = .ok (.getfield 26, 3) := by decide +kernel
theorem dX6_peg_24 : decode cX6_peg 24 = .ok (.getfield 161, 3) := by decide +kernel
theorem dX6_peg_27 : decode cX6_peg 27 = .ok (.iload_n 1, 1) := by decide +kernel
theorem dX6_peg_28 : decode cX6_peg 28 = .ok (.iaload, 1) := by decide +kernel
theorem dX6_peg_29 : decode cX6_peg 29 = .ok (.iload_n 2, 1) := by decide +kernel
theorem dX6_peg_30 : decode cX6_peg 30 = .ok (.if_icmp .ne 6, 3) := by decide +kernel
theorem dX6_peg_33 : decode cX6_peg 33 = .ok (.ldc 144, 2) := by decide +kernel
theorem dX6_peg_35 : decode cX6_peg 35 = .ok (.ireturn, 1) := by decide +kernel
theorem dX6_peg_36 : decode cX6_peg 36 = .ok (.aload_n 0, 1) := by decide +kernel
theorem dX6_peg_37 : decode cX6_peg 37 = .ok (.getfield 33, 3) := by decide +kernel
theorem dX6_peg_40 : decode cX6_peg 40 = .ok (.aload_n 0, 1) := by decide +kernel
theorem dX6_peg_41 : decode cX6_peg 41 = .ok (.getfield 26, 3) := by decide +kernel
theorem dX6_peg_44 : decode cX6_peg 44 = .ok (.invokevirtual 148, 3) := by decide +kernel
theorem dX6_peg_47 : decode cX6_peg 47 = .ok (.aload_n 0, 1) := by decide +kernel
theorem dX6_peg_48 : decode cX6_peg 48 = .ok (.getfield 26, 3) := by decide +kernel
theorem dX6_peg_51 : decode cX6_peg 51 = .ok (.getfield 161, 3) := by decide +kernel
theorem dX6_peg_54 : decode cX6_peg 54 = .ok (.iload_n 1, 1) := by decide +kernel
theorem dX6_peg_55 : decode cX6_peg 55 = .ok (.iload_n 2, 1) := by decide +kernel
theorem dX6_peg_56 : decode cX6_peg 56 = .ok (.iastore, 1) := by decide +kernel
theorem dX6_peg_57 : decode cX6_peg 57 = .ok (.aload_n 0, 1) := by decide +kernel
theorem dX6_peg_58 : decode cX6_peg 58 = .ok (.getfield 26, 3) := by decide +kernel
theorem dX6_peg_61 : decode cX6_peg 61 = .ok (.invokevirtual 164, 3) := by decide +kernel
theorem dX6_peg_64 : decode cX6_peg 64 = .ok (.ireturn, 1) := by decide +kernel
theorem dX6_move_0 : decode cX6_move 0 = .ok (.aload_n 0, 1) := by decide +kernel
theorem dX6_move_1 : decode cX6_move 1 = .ok (.iload_n 1, 1) := by decide +kernel
theorem dX6_move_2 : decode cX6_move 2 = .ok (.invokevirtual 158, 3) := by decide +kernel
theorem dX6_move_5 : decode cX6_move 5 = .ok (.ifCond .eq 11, 3) := by decide +kernel
theorem dX6_move_8 : decode cX6_move 8 = .ok (.aload_n 0, 1) := by decide +kernel
theorem dX6_move_9 : decode cX6_move 9 = .ok (.iload_n 2, 1) := by decide +kernel
theorem dX6_move_10 : decode cX6_move 10 = .ok (.invokevirtual 167, 3) := by decide +kernel
theorem dX6_move_13 : decode cX6_move 13 = .ok (.ifCond .ne 6, 3) := by decide +kernel
theorem dX6_move_16 : decode cX6_move 16 = .ok (.ldc 67, 2) := by decide +kernel
theorem dX6_move_18 : decode cX6_move 18 = .ok (.ireturn, 1) := by decide +kernel
theorem dX6_move_19 : decode cX6_move 19 = .ok (.aload_n 0, 1) := by decide +kernel
theorem dX6_move_20 : decode cX6_move 20 = .ok (.getfield 26, 3) := by decide +kernel
theorem dX6_move_23 : decode cX6_move 23 = .ok (.getfield 170, 3) := by decide +kernel
theorem dX6_move_26 : decode cX6_move 26 = .ok (.iload_n 1, 1) := by decide +kernel
theorem dX6_move_27 : decode cX6_move 27 = .ok (.iaload, 1) := by decide +kernel
theorem dX6_move_28 : decode cX6_move 28 = .ok (.istore_n 3, 1) := by decide +kernel
theorem dX6_move_29 : decode cX6_move 29 = .ok (.iload_n 3, 1) := by decide +kernel
theorem dX6_move_30 : decode cX6_move 30 = .ok (.iload_n 2, 1) := by decide +kernel
theorem dX6_move_31 : decode cX6_move 31 = .ok (.if_icmp .ne 6, 3) := by decide +kernel
theorem dX6_move_34 : decode cX6_move 34 = .ok (.ldc 144, 2) := by decide +kernel
theorem dX6_move_36 : decode cX6_move 36 = .ok (.ireturn, 1) := by decide +kernel
theorem dX6_move_37 : decode cX6_move 37 = .ok (.aload_n 0, 1) := by decide +kernel
theorem dX6_move_38 : decode cX6_move 38 = .ok (.getfield 33, 3) := by decide +kernel
theorem dX6_move_41 : decode cX6_move 41 = .ok (.aload_n 0, 1) := by decide +kernel
theorem dX6_move_42 : decode cX6_move 42 = .ok (.getfield 26, 3) := by decide +kernel
theorem dX6_move_45 : decode cX6_move 45 = .ok (.invokevirtual 148, 3) := by decide +kernel
theorem dX6_move_48 : decode cX6_move 48 = .ok (.aload_n 0, 1) := by decide +kernel
theorem dX6_move_49 : decode cX6_move 49 = .ok (.getfield 26, 3) := by decide +kernel
theorem dX6_move_52 : decode cX6_move 52 = .ok (.getfield 170, 3) := by decide +kernel
theorem dX6_move_55 : decode cX6_move 55 = .ok (.iload_n 1, 1) := by decide +kernel
theorem dX6_move_56 : decode cX6_move 56 = .ok (.iload_n 2, 1) := by decide +kernel
theorem dX6_move_57 : decode cX6_move 57 = .ok (.iastore, 1) := by decide +kernel
theorem dX6_move_58 : decode cX6_move 58 = .ok (.iload_n 3, 1) := by decide +kernel
theorem dX6_move_59 : decode cX6_move 59 = .ok (.ireturn, 1) := by decide +kernel
theorem dX6_light_0 : decode cX6_light 0 = .ok (.aload_n 0, 1) := by decide +kernel
theorem dX6_light_1 : decode cX6_light 1 = .ok (.iload_n 1, 1) := by decide +kernel
theorem dX6_light_2 : decode cX6_light 2 = .ok (.invokevirtual 167, 3) := by decide +kernel
theorem dX6_light_5 : decode cX6_light 5 = .ok (.ifCond .eq 13, 3) := by decide +kernel
theorem dX6_light_8 : decode cX6_light 8 = .ok (.iload_n 2, 1) := by decide +kernel
theorem dX6_light_9 : decode cX6_light 9 = .ok (.iconst 0, 1) := by decide +kernel
theorem dX6_light_10 : decode cX6_light 10 = .ok (.bipush 20, 2) := by decide +kernel
theorem dX6_light_12 : decode cX6_light 12 = .ok (.invokestatic 63, 3) := by decide +kernel
theorem dX6_light_15 : decode cX6_light 15 = .ok (.ifCond .ne 6, 3) := by decide +kernel
theorem dX6_light_18 : decode cX6_light 18 = .ok (.ldc 67, 2) := by decide +kernel
theorem dX6_light_20 : decode cX6_light 20 = .ok (.ireturn, 1) := by decide +kernel
theorem dX6_light_21 : decode cX6_light 21 = .ok (.aload_n 0, 1) := by decide +kernel
theorem dX6_light_22 : decode cX6_light 22 = .ok (.getfield 26, 3) := by decide +kernel
theorem dX6_light_25 : decode cX6_light 25 = .ok (.getfield 173, 3) := by decide +kernel
theorem dX6_light_28 : decode cX6_light 28 = .ok (.iload_n 1, 1) := by decide +kernel
theorem dX6_light_29 : decode cX6_light 29 = .ok (.iaload, 1) := by decide +kernel
theorem dX6_light_30 : decode cX6_light 30 = .ok (.istore_n 3, 1) := by decide +kernel
theorem dX6_light_31 : decode cX6_light 31 = .ok (.aload_n 0, 1) := by decide +kernel
theorem dX6_light_32 : decode cX6_light 32 = .ok (.getfield 33, 3) := by decide +kernel
theorem dX6_light_35 : decode cX6_light 35 = .ok (.aload_n 0, 1) := by decide +kernel
theorem dX6_light_36 : decode cX6_light 36 = .ok (.getfield 26, 3) := by decide +kernel
theorem dX6_light_39 : decode cX6_light 39 = .ok (.invokevirtual 148, 3) := by decide +kernel
theorem dX6_light_42 : decode cX6_light 42 = .ok (.aload_n 0, 1) := by decide +kernel
theorem dX6_light_43 : decode cX6_light 43 = .ok (.getfield 26, 3) := by decide +kernel
theorem dX6_light_46 : decode cX6_light 46 = .ok (.getfield 173, 3) := by decide +kernel
theorem dX6_light_49 : decode cX6_light 49 = .ok (.iload_n 1, 1) := by decide +kernel
theorem dX6_light_50 : decode cX6_light 50 = .ok (.iload_n 2, 1) := by decide +kernel
theorem dX6_light_51 : decode cX6_light 51 = .ok (.iastore, 1) := by decide +kernel
theorem dX6_light_52 : decode cX6_light 52 = .ok (.iload_n 3, 1) := by decide +kernel
theorem dX6_light_53 : decode cX6_light 53 = .ok (.ireturn, 1) := by decide +kernel
theorem dX6_weather_0 : decode cX6_weather 0 = .ok (.aload_n 0, 1) := by decide +kernel
theorem dX6_weather_1 : decode cX6_weather 1 = .ok (.getfield 26, 3) := by decide +kernel
theorem dX6_weather_4 : decode cX6_weather 4 = .ok (.invokevirtual 141, 3) := by decide +kernel
theorem dX6_weather_7 : decode cX6_weather 7 = .ok (.ifCond .ne 6, 3) := by decide +kernel
theorem dX6_weather_10 : decode cX6_weather 10 = .ok (.ldc 144, 2) := by decide +kernel
theorem dX6_weather_12 : decode cX6_weather 12 = .ok (.ireturn, 1) := by decide +kernel
theorem dX6_weather_13 : decode cX6_weather 13 = .ok (.iload_n 1, 1) := by decide +kernel
theorem dX6_weather_14 : decode cX6_weather 14 = .ok (.iconst 0, 1) := by decide +kernel
theorem dX6_weather_15 : decode cX6_weather 15 = .ok (.bipush 15, 2) := by decide +kernel
theorem dX6_weather_17 : decode cX6_weather 17 = .ok (.invokestatic 63, 3) := by decide +kernel
theorem dX6_weather_20 : decode cX6_weather 20 = .ok (.ifCond .ne 6, 3) := by decide +kernel
theorem dX6_weather_23 : decode cX6_weather 23 = .ok (.ldc 67, 2) := by decide +kernel
theorem dX6_weather_25 : decode cX6_weather 25 = .ok (.ireturn, 1) := by decide +kernel
theorem dX6_weather_26 : decode cX6_weather 26 = .ok (.aload_n 0, 1) := by decide +kernel
theorem dX6_weather_27 : decode cX6_weather 27 = .ok (.getfield 26, 3) := by decide +kernel
theorem dX6_weather_30 : decode cX6_weather 30 = .ok (.getfield 176, 3) := by decide +kernel
theorem dX6_weather_33 : decode cX6_weather 33 = .ok (.istore_n 2, 1) := by decide +kernel
theorem dX6_weather_34 : decode cX6_weather 34 = .ok (.aload_n 0, 1) := by decide +kernel
theorem dX6_weather_35 : decode cX6_weather 35 = .ok (.getfield 33, 3) := by decide +kernel
theorem dX6_weather_38 : decode cX6_weather 38 = .ok (.aload_n 0, 1) := by decide +kernel
theorem dX6_weather_39 : decode cX6_weather 39 = .ok (.getfield 26, 3) := by decide +kernel
theorem dX6_weather_42 : decode cX6_weather 42 = .ok (.invokevirtual 148, 3) := by decide +kernel
theorem dX6_weather_45 : decode cX6_weather 45 = .ok (.aload_n 0, 1) := by decide +kernel
theorem dX6_weather_46 : decode cX6_weather 46 = .ok (.getfield 26, 3) := by decide +kernel
theorem dX6_weather_49 : decode cX6_weather 49 = .ok (.iload_n 1, 1) := by decide +kernel
theorem dX6_weather_50 : decode cX6_weather 50 = .ok (.putfield 176, 3) := by decide +kernel
theorem dX6_weather_53 : decode cX6_weather 53 = .ok (.iload_n 2, 1) := by decide +kernel
theorem dX6_weather_54 : decode cX6_weather 54 = .ok (.ireturn, 1) := by decide +kernel
theorem dX6_undo_0 : decode cX6_undo 0 = .ok (.aload_n 0, 1) := by decide +kernel
theorem dX6_undo_1 : decode cX6_undo 1 = .ok (.getfield 33, 3) := by decide +kernel
theorem dX6_undo_4 : decode cX6_undo 4 = .ok (.getfield 179, 3) := by decide +kernel
theorem dX6_undo_7 : decode cX6_undo 7 = .ok (.ifCond .ne 6, 3) := by decide +kernel
theorem dX6_undo_10 : decode cX6_undo 10 = .ok (.ldc 144, 2) := by decide +kernel
theorem dX6_undo_12 : decode cX6_undo 12 = .ok (.ireturn, 1) := by decide +kernel
theorem dX6_undo_13 : decode cX6_undo 13 = .ok (.aload_n 0, 1) := by decide +kernel
theorem dX6_undo_14 : decode cX6_undo 14 = .ok (.getfield 33, 3) := by decide +kernel
theorem dX6_undo_17 : decode cX6_undo 17 = .ok (.aload_n 0, 1) := by decide +kernel
theorem dX6_undo_18 : decode cX6_undo 18 = .ok (.getfield 26, 3) := by decide +kernel
theorem dX6_undo_21 : decode cX6_undo 21 = .ok (.invokevirtual 182, 3) := by decide +kernel
theorem dX6_undo_24 : decode cX6_undo 24 = .ok (.aload_n 0, 1) := by decide +kernel
theorem dX6_undo_25 : decode cX6_undo 25 = .ok (.getfield 33, 3) := by decide +kernel
theorem dX6_undo_28 : decode cX6_undo 28 = .ok (.getfield 179, 3) := by decide +kernel
theorem dX6_undo_31 : decode cX6_undo 31 = .ok (.ireturn, 1) := by decide +kernel
theorem dX6_pair_0 : decode cX6_pair 0 = .ok (.aload_n 0, 1) := by decide +kernel
theorem dX6_pair_1 : decode cX6_pair 1 = .ok (.iload_n 1, 1) := by decide +kernel
theorem dX6_pair_2 : decode cX6_pair 2 = .ok (.invokevirtual 158, 3) := by decide +kernel
theorem dX6_pair_5 : decode cX6_pair 5 = .ok (.ifCond .ne 6, 3) := by decide +kernel
theorem dX6_pair_8 : decode cX6_pair 8 = .ok (.ldc 67, 2) := by decide +kernel
theorem dX6_pair_10 : decode cX6_pair 10 = .ok (.ireturn, 1) := by decide +kernel
theorem dX6_pair_11 : decode cX6_pair 11 = .ok (.iload_n 2, 1) := by decide +kernel
theorem dX6_pair_12 : decode cX6_pair 12 = .ok (.tableswitch 71 0 3 #[32, 42, 52, 62], 32) := by decide +kernel
theorem dX6_pair_44 : decode cX6_pair 44 = .ok (.aload_n 0, 1) := by decide +kernel
theorem dX6_pair_45 : decode cX6_pair 45 = .ok (.getfield 26, 3) := by decide +kernel
theorem dX6_pair_48 : decode cX6_pair 48 = .ok (.getfield 185, 3) := by decide +kernel
theorem dX6_pair_51 : decode cX6_pair 51 = .ok (.iload_n 1, 1) := by decide +kernel
theorem dX6_pair_52 : decode cX6_pair 52 = .ok (.iaload, 1) := by decide +kernel
theorem dX6_pair_53 : decode cX6_pair 53 = .ok (.ireturn, 1) := by decide +kernel
theorem dX6_pair_54 : decode cX6_pair 54 = .ok (.aload_n 0, 1) := by decide +kernel
theorem dX6_pair_55 : decode cX6_pair 55 = .ok (.getfield 26, 3) := by decide +kernel
theorem dX6_pair_58 : decode cX6_pair 58 = .ok (.getfield 170, 3) := by decide +kernel
theorem dX6_pair_61 : decode cX6_pair 61 = .ok (.iload_n 1, 1) := by decide +kernel
theorem dX6_pair_62 : decode cX6_pair 62 = .ok (.iaload, 1) := by decide +kernel
theorem dX6_pair_63 : decode cX6_pair 63 = .ok (.ireturn, 1) := by decide +kernel
theorem dX6_pair_64 : decode cX6_pair 64 = .ok (.aload_n 0, 1) := by decide +kernel
theorem dX6_pair_65 : decode cX6_pair 65 = .ok (.getfield 26, 3) := by decide +kernel
theorem dX6_pair_68 : decode cX6_pair 68 = .ok (.getfield 161, 3) := by decide +kernel
theorem dX6_pair_71 : decode cX6_pair 71 = .ok (.iload_n 1, 1) := by decide +kernel
theorem dX6_pair_72 : decode cX6_pair 72 = .ok (.iaload, 1) := by decide +kernel
theorem dX6_pair_73 : decode cX6_pair 73 = .ok (.ireturn, 1) := by decide +kernel
theorem dX6_pair_74 : decode cX6_pair 74 = .ok (.aload_n 0, 1) := by decide +kernel
theorem dX6_pair_75 : decode cX6_pair 75 = .ok (.getfield 26, 3) := by decide +kernel
theorem dX6_pair_78 : decode cX6_pair 78 = .ok (.iload_n 1, 1) := by decide +kernel
theorem dX6_pair_79 : decode cX6_pair 79 = .ok (.invokevirtual 188, 3) := by decide +kernel
theorem dX6_pair_82 : decode cX6_pair 82 = .ok (.ireturn, 1) := by decide +kernel
theorem dX6_pair_83 : decode cX6_pair 83 = .ok (.ldc 67, 2) := by decide +kernel
theorem dX6_pair_85 : decode cX6_pair 85 = .ok (.ireturn, 1) := by decide +kernel
theorem dX6_hearth_0 : decode cX6_hearth 0 = .ok (.aload_n 0, 1) := by decide +kernel
theorem dX6_hearth_1 : decode cX6_hearth 1 = .ok (.iload_n 1, 1) := by decide +kernel
theorem dX6_hearth_2 : decode cX6_hearth 2 = .ok (.invokevirtual 167, 3) := by decide +kernel
theorem dX6_hearth_5 : decode cX6_hearth 5 = .ok (.ifCond .ne 6, 3) := by decide +kernel
theorem dX6_hearth_8 : decode cX6_hearth 8 = .ok (.ldc 67, 2) := by decide +kernel
theorem dX6_hearth_10 : decode cX6_hearth 10 = .ok (.ireturn, 1) := by decide +kernel
theorem dX6_hearth_11 : decode cX6_hearth 11 = .ok (.iload_n 2, 1) := by decide +kernel
theorem dX6_hearth_12 : decode cX6_hearth 12 = .ok (.tableswitch 77 0 3 #[32, 42, 59, 68], 32) := by decide +kernel
theorem dX6_hearth_44 : decode cX6_hearth 44 = .ok (.aload_n 0, 1) := by decide +kernel
theorem dX6_hearth_45 : decode cX6_hearth 45 = .ok (.getfield 26, 3) := by decide +kernel
theorem dX6_hearth_48 : decode cX6_hearth 48 = .ok (.getfield 173, 3) := by decide +kernel
theorem dX6_hearth_51 : decode cX6_hearth 51 = .ok (.iload_n 1, 1) := by decide +kernel
theorem dX6_hearth_52 : decode cX6_hearth 52 = .ok (.iaload, 1) := by decide +kernel
theorem dX6_hearth_53 : decode cX6_hearth 53 = .ok (.ireturn, 1) := by decide +kernel
theorem dX6_hearth_54 : decode cX6_hearth 54 = .ok (.aload_n 0, 1) := by decide +kernel
theorem dX6_hearth_55 : decode cX6_hearth 55 = .ok (.getfield 26, 3) := by decide +kernel
theorem dX6_hearth_58 : decode cX6_hearth 58 = .ok (.iload_n 1, 1) := by decide +kernel
theorem dX6_hearth_59 : decode cX6_hearth 59 = .ok (.invokevirtual 191, 3) := by decide +kernel
theorem dX6_hearth_62 : decode cX6_hearth 62 = .ok (.ifCond .eq 7, 3) := by decide +kernel
theorem dX6_hearth_65 : decode cX6_hearth 65 = .ok (.iconst 1, 1) := by decide +kernel
theorem dX6_hearth_66 : decode cX6_hearth 66 = .ok (.goto 4, 3) := by decide +kernel
theorem dX6_hearth_69 : decode cX6_hearth 69 = .ok (.iconst 0, 1) := by decide +kernel
theorem dX6_hearth_70 : decode cX6_hearth 70 = .ok (.ireturn, 1) := by decide +kernel
theorem dX6_hearth_71 : decode cX6_hearth 71 = .ok (.aload_n 0, 1) := by decide +kernel
theorem dX6_hearth_72 : decode cX6_hearth 72 = .ok (.getfield 26, 3) := by decide +kernel
theorem dX6_hearth_75 : decode cX6_hearth 75 = .ok (.iload_n 1, 1) := by decide +kernel
theorem dX6_hearth_76 : decode cX6_hearth 76 = .ok (.invokevirtual 194, 3) := by decide +kernel
theorem dX6_hearth_79 : decode cX6_hearth 79 = .ok (.ireturn, 1) := by decide +kernel
theorem dX6_hearth_80 : decode cX6_hearth 80 = .ok (.aload_n 0, 1) := by decide +kernel
theorem dX6_hearth_81 : decode cX6_hearth 81 = .ok (.getfield 26, 3) := by decide +kernel
theorem dX6_hearth_84 : decode cX6_hearth 84 = .ok (.iload_n 1, 1) := by decide +kernel
theorem dX6_hearth_85 : decode cX6_hearth 85 = .ok (.invokevirtual 197, 3) := by decide +kernel
theorem dX6_hearth_88 : decode cX6_hearth 88 = .ok (.ireturn, 1) := by decide +kernel
theorem dX6_hearth_89 : decode cX6_hearth 89 = .ok (.ldc 67, 2) := by decide +kernel
theorem dX6_hearth_91 : decode cX6_hearth 91 = .ok (.ireturn, 1) := by decide +kernel
theorem dX6_breath_0 : decode cX6_breath 0 = .ok (.aload_n 0, 1) := by decide +kernel
theorem dX6_breath_1 : decode cX6_breath 1 = .ok (.iload_n 1, 1) := by decide +kernel
theorem dX6_breath_2 : decode cX6_breath 2 = .ok (.invokevirtual 158, 3) := by decide +kernel
theorem dX6_breath_5 : decode cX6_breath 5 = .ok (.ifCond .eq 13, 3) := by decide +kernel
theorem dX6_breath_8 : decode cX6_breath 8 = .ok (.iload_n 2, 1) := by decide +kernel
theorem dX6_breath_9 : decode cX6_breath 9 = .ok (.iconst 0, 1) := by decide +kernel
theorem dX6_breath_10 : decode cX6_breath 10 = .ok (.bipush 60, 2) := by decide +kernel
theorem dX6_breath_12 : decode cX6_breath 12 = .ok (.invokestatic 63, 3) := by decide +kernel
theorem dX6_breath_15 : decode cX6_breath 15 = .ok (.ifCond .ne 6, 3) := by decide +kernel
theorem dX6_breath_18 : decode cX6_breath 18 = .ok (.ldc 67, 2) := by decide +kernel
theorem dX6_breath_20 : decode cX6_breath 20 = .ok (.ireturn, 1) := by decide +kernel
theorem dX6_breath_21 : decode cX6_breath 21 = .ok (.aload_n 0, 1) := by decide +kernel
theorem dX6_breath_22 : decode cX6_breath 22 = .ok (.getfield 44, 3) := by decide +kernel
theorem dX6_breath_25 : decode cX6_breath 25 = .ok (.aload_n 0, 1) := by decide +kernel
theorem dX6_breath_26 : decode cX6_breath 26 = .ok (.getfield 26, 3) := by decide +kernel
theorem dX6_breath_29 : decode cX6_breath 29 = .ok (.iload_n 2, 1) := by decide +kernel
theorem dX6_breath_30 : decode cX6_breath 30 = .ok (.invokevirtual 200, 3) := by decide +kernel
theorem dX6_breath_33 : decode cX6_breath 33 = .ok (.getfield 185, 3) := by decide +kernel
theorem dX6_breath_36 : decode cX6_breath 36 = .ok (.iload_n 1, 1) := by decide +kernel
theorem dX6_breath_37 : decode cX6_breath 37 = .ok (.iaload, 1) := by decide +kernel
theorem dX6_breath_38 : decode cX6_breath 38 = .ok (.ireturn, 1) := by decide +kernel
theorem dX6_fire_0 : decode cX6_fire 0 = .ok (.aload_n 0, 1) := by decide +kernel
theorem dX6_fire_1 : decode cX6_fire 1 = .ok (.iload_n 1, 1) := by decide +kernel
theorem dX6_fire_2 : decode cX6_fire 2 = .ok (.invokevirtual 167, 3) := by decide +kernel
theorem dX6_fire_5 : decode cX6_fire 5 = .ok (.ifCond .eq 13, 3) := by decide +kernel
theorem dX6_fire_8 : decode cX6_fire 8 = .ok (.iload_n 2, 1) := by decide +kernel
theorem dX6_fire_9 : decode cX6_fire 9 = .ok (.iconst 0, 1) := by decide +kernel
theorem dX6_fire_10 : decode cX6_fire 10 = .ok (.bipush 60, 2) := by decide +kernel
theorem dX6_fire_12 : decode cX6_fire 12 = .ok (.invokestatic 63, 3) := by decide +kernel
theorem dX6_fire_15 : decode cX6_fire 15 = .ok (.ifCond .ne 6, 3) := by decide +kernel
theorem dX6_fire_18 : decode cX6_fire 18 = .ok (.ldc 67, 2) := by decide +kernel
theorem dX6_fire_20 : decode cX6_fire 20 = .ok (.ireturn, 1) := by decide +kernel
theorem dX6_fire_21 : decode cX6_fire 21 = .ok (.aload_n 0, 1) := by decide +kernel
theorem dX6_fire_22 : decode cX6_fire 22 = .ok (.getfield 44, 3) := by decide +kernel
theorem dX6_fire_25 : decode cX6_fire 25 = .ok (.aload_n 0, 1) := by decide +kernel
theorem dX6_fire_26 : decode cX6_fire 26 = .ok (.getfield 26, 3) := by decide +kernel
theorem dX6_fire_29 : decode cX6_fire 29 = .ok (.iload_n 2, 1) := by decide +kernel
theorem dX6_fire_30 : decode cX6_fire 30 = .ok (.invokevirtual 200, 3) := by decide +kernel
theorem dX6_fire_33 : decode cX6_fire 33 = .ok (.getfield 173, 3) := by decide +kernel
theorem dX6_fire_36 : decode cX6_fire 36 = .ok (.iload_n 1, 1) := by decide +kernel
theorem dX6_fire_37 : decode cX6_fire 37 = .ok (.iaload, 1) := by decide +kernel
theorem dX6_fire_38 : decode cX6_fire 38 = .ok (.ireturn, 1) := by decide +kernel
theorem dX6_lit_0 : decode cX6_lit 0 = .ok (.aload_n 0, 1) := by decide +kernel
theorem dX6_lit_1 : decode cX6_lit 1 = .ok (.getfield 26, 3) := by decide +kernel
theorem dX6_lit_4 : decode cX6_lit 4 = .ok (.invokevirtual 141, 3) := by decide +kernel
theorem dX6_lit_7 : decode cX6_lit 7 = .ok (.ifCond .ne 6, 3) := by decide +kernel
theorem dX6_lit_10 : decode cX6_lit 10 = .ok (.ldc 144, 2) := by decide +kernel
theorem dX6_lit_12 : decode cX6_lit 12 = .ok (.ireturn, 1) := by decide +kernel
theorem dX6_lit_13 : decode cX6_lit 13 = .ok (.iload_n 1, 1) := by decide +kernel
theorem dX6_lit_14 : decode cX6_lit 14 = .ok (.iconst 0, 1) := by decide +kernel
theorem dX6_lit_15 : decode cX6_lit 15 = .ok (.bipush 60, 2) := by decide +kernel
theorem dX6_lit_17 : decode cX6_lit 17 = .ok (.invokestatic 63, 3) := by decide +kernel
theorem dX6_lit_20 : decode cX6_lit 20 = .ok (.ifCond .ne 6, 3) := by decide +kernel
theorem dX6_lit_23 : decode cX6_lit 23 = .ok (.ldc 67, 2) := by decide +kernel
theorem dX6_lit_25 : decode cX6_lit 25 = .ok (.ireturn, 1) := by decide +kernel
theorem dX6_lit_26 : decode cX6_lit 26 = .ok (.aload_n 0, 1) := by decide +kernel
theorem dX6_lit_27 : decode cX6_lit 27 = .ok (.getfield 44, 3) := by decide +kernel
theorem dX6_lit_30 : decode cX6_lit 30 = .ok (.aload_n 0, 1) := by decide +kernel
theorem dX6_lit_31 : decode cX6_lit 31 = .ok (.getfield 26, 3) := by decide +kernel
theorem dX6_lit_34 : decode cX6_lit 34 = .ok (.iload_n 1, 1) := by decide +kernel
theorem dX6_lit_35 : decode cX6_lit 35 = .ok (.invokevirtual 200, 3) := by decide +kernel
theorem dX6_lit_38 : decode cX6_lit 38 = .ok (.invokevirtual 154, 3) := by decide +kernel
theorem dX6_lit_41 : decode cX6_lit 41 = .ok (.ireturn, 1) := by decide +kernel
theorem dX6_empty_0 : decode cX6_empty 0 = .ok (.aload_n 0, 1) := by decide +kernel
theorem dX6_empty_1 : decode cX6_empty 1 = .ok (.getfield 26, 3) := by decide +kernel
theorem dX6_empty_4 : decode cX6_empty 4 = .ok (.invokevirtual 141, 3) := by decide +kernel
theorem dX6_empty_7 : decode cX6_empty 7 = .ok (.ifCond .ne 6, 3) := by decide +kernel
theorem dX6_empty_10 : decode cX6_empty 10 = .ok (.ldc 144, 2) := by decide +kernel
theorem dX6_empty_12 : decode cX6_empty 12 = .ok (.ireturn, 1) := by decide +kernel
theorem dX6_empty_13 : decode cX6_empty 13 = .ok (.iload_n 1, 1) := by decide +kernel
theorem dX6_empty_14 : decode cX6_empty 14 = .ok (.iconst 0, 1) := by decide +kernel
theorem dX6_empty_15 : decode cX6_empty 15 = .ok (.iconst 1, 1) := by decide +kernel
theorem dX6_empty_16 : decode cX6_empty 16 = .ok (.invokestatic 63, 3) := by decide +kernel
theorem dX6_empty_19 : decode cX6_empty 19 = .ok (.ifCond .ne 6, 3) := by decide +kernel
theorem dX6_empty_22 : decode cX6_empty 22 = .ok (.ldc 67, 2) := by decide +kernel
theorem dX6_empty_24 : decode cX6_empty 24 = .ok (.ireturn, 1) := by decide +kernel
theorem dX6_empty_25 : decode cX6_empty 25 = .ok (.aload_n 0, 1) := by decide +kernel
theorem dX6_empty_26 : decode cX6_empty 26 = .ok (.getfield 44, 3) := by decide +kernel
theorem dX6_empty_29 : decode cX6_empty 29 = .ok (.aload_n 0, 1) := by decide +kernel
theorem dX6_empty_30 : decode cX6_empty 30 = .ok (.getfield 26, 3) := by decide +kernel
theorem dX6_empty_33 : decode cX6_empty 33 = .ok (.iload_n 1, 1) := by decide +kernel
theorem dX6_empty_34 : decode cX6_empty 34 = .ok (.invokevirtual 204, 3) := by decide +kernel
theorem dX6_empty_37 : decode cX6_empty 37 = .ok (.ireturn, 1) := by decide +kernel
theorem dX6_cold_0 : decode cX6_cold 0 = .ok (.aload_n 0, 1) := by decide +kernel
theorem dX6_cold_1 : decode cX6_cold 1 = .ok (.iload_n 1, 1) := by decide +kernel
theorem dX6_cold_2 : decode cX6_cold 2 = .ok (.invokevirtual 167, 3) := by decide +kernel
theorem dX6_cold_5 : decode cX6_cold 5 = .ok (.ifCond .ne 6, 3) := by decide +kernel
theorem dX6_cold_8 : decode cX6_cold 8 = .ok (.ldc 67, 2) := by decide +kernel
theorem dX6_cold_10 : decode cX6_cold 10 = .ok (.ireturn, 1) := by decide +kernel
theorem dX6_cold_11 : decode cX6_cold 11 = .ok (.aload_n 0, 1) := by decide +kernel
theorem dX6_cold_12 : decode cX6_cold 12 = .ok (.getfield 44, 3) := by decide +kernel
theorem dX6_cold_15 : decode cX6_cold 15 = .ok (.aload_n 0, 1) := by decide +kernel
theorem dX6_cold_16 : decode cX6_cold 16 = .ok (.getfield 26, 3) := by decide +kernel
theorem dX6_cold_19 : decode cX6_cold 19 = .ok (.iload_n 1, 1) := by decide +kernel
theorem dX6_cold_20 : decode cX6_cold 20 = .ok (.invokevirtual 208, 3) := by decide +kernel
theorem dX6_cold_23 : decode cX6_cold 23 = .ok (.ireturn, 1) := by decide +kernel
theorem dX6_best_0 : decode cX6_best 0 = .ok (.aload_n 0, 1) := by decide +kernel
theorem dX6_best_1 : decode cX6_best 1 = .ok (.iload_n 1, 1) := by decide +kernel
theorem dX6_best_2 : decode cX6_best 2 = .ok (.invokevirtual 158, 3) := by decide +kernel
theorem dX6_best_5 : decode cX6_best 5 = .ok (.ifCond .eq 22, 3) := by decide +kernel
theorem dX6_best_8 : decode cX6_best 8 = .ok (.iload_n 2, 1) := by decide +kernel
theorem dX6_best_9 : decode cX6_best 9 = .ok (.iconst 1, 1) := by decide +kernel
theorem dX6_best_10 : decode cX6_best 10 = .ok (.bipush 30, 2) := by decide +kernel
theorem dX6_best_12 : decode cX6_best 12 = .ok (.invokestatic 63, 3) := by decide +kernel
theorem dX6_best_15 : decode cX6_best 15 = .ok (.ifCond .eq 12, 3) := by decide +kernel
theorem dX6_best_18 : decode cX6_best 18 = .ok (.iload_n 3, 1) := by decide +kernel
theorem dX6_best_19 : decode cX6_best 19 = .ok (.iconst 0, 1) := by decide +kernel
theorem dX6_best_20 : decode cX6_best 20 = .ok (.iconst 1, 1) := by decide +kernel
theorem dX6_best_21 : decode cX6_best 21 = .ok (.invokestatic 63, 3) := by decide +kernel
theorem dX6_best_24 : decode cX6_best 24 = .ok (.ifCond .ne 6, 3) := by decide +kernel
theorem dX6_best_27 : decode cX6_best 27 = .ok (.ldc 67, 2) := by decide +kernel
theorem dX6_best_29 : decode cX6_best 29 = .ok (.ireturn, 1) := by decide +kernel
theorem dX6_best_30 : decode cX6_best 30 = .ok (.aload_n 0, 1) := by decide +kernel
theorem dX6_best_31 : decode cX6_best 31 = .ok (.getfield 44, 3) := by decide +kernel
theorem dX6_best_34 : decode cX6_best 34 = .ok (.aload_n 0, 1) := by decide +kernel
theorem dX6_best_35 : decode cX6_best 35 = .ok (.getfield 26, 3) := by decide +kernel
theorem dX6_best_38 : decode cX6_best 38 = .ok (.iload_n 1, 1) := by decide +kernel
theorem dX6_best_39 : decode cX6_best 39 = .ok (.iload_n 2, 1) := by decide +kernel
theorem dX6_best_40 : decode cX6_best 40 = .ok (.iload_n 3, 1) := by decide +kernel
theorem dX6_best_41 : decode cX6_best 41 = .ok (.invokevirtual 211, 3) := by decide +kernel
theorem dX6_best_44 : decode cX6_best 44 = .ok (.ireturn, 1) := by decide +kernel
theorem dX6_draw_0 : decode cX6_draw 0 = .ok (.aload_n 0, 1) := by decide +kernel
theorem dX6_draw_1 : decode cX6_draw 1 = .ok (.getfield 26, 3) := by decide +kernel
theorem dX6_draw_4 : decode cX6_draw 4 = .ok (.invokevirtual 141, 3) := by decide +kernel
theorem dX6_draw_7 : decode cX6_draw 7 = .ok (.ifCond .ne 6, 3) := by decide +kernel
theorem dX6_draw_10 : decode cX6_draw 10 = .ok (.ldc 144, 2) := by decide +kernel
theorem dX6_draw_12 : decode cX6_draw 12 = .ok (.ireturn, 1) := by decide +kernel
theorem dX6_draw_13 : decode cX6_draw 13 = .ok (.iload_n 1, 1) := by decide +kernel
theorem dX6_draw_14 : decode cX6_draw 14 = .ok (.iconst 1, 1) := by decide +kernel
theorem dX6_draw_15 : decode cX6_draw 15 = .ok (.bipush 30, 2) := by decide +kernel
theorem dX6_draw_17 : decode cX6_draw 17 = .ok (.invokestatic 63, 3) := by decide +kernel
theorem dX6_draw_20 : decode cX6_draw 20 = .ok (.ifCond .eq 12, 3) := by decide +kernel
theorem dX6_draw_23 : decode cX6_draw 23 = .ok (.iload_n 2, 1) := by decide +kernel
theorem dX6_draw_24 : decode cX6_draw 24 = .ok (.iconst 0, 1) := by decide +kernel
theorem dX6_draw_25 : decode cX6_draw 25 = .ok (.iconst 1, 1) := by decide +kernel
theorem dX6_draw_26 : decode cX6_draw 26 = .ok (.invokestatic 63, 3) := by decide +kernel
theorem dX6_draw_29 : decode cX6_draw 29 = .ok (.ifCond .ne 6, 3) := by decide +kernel
theorem dX6_draw_32 : decode cX6_draw 32 = .ok (.ldc 67, 2) := by decide +kernel
theorem dX6_draw_34 : decode cX6_draw 34 = .ok (.ireturn, 1) := by decide +kernel
theorem dX6_draw_35 : decode cX6_draw 35 = .ok (.aload_n 0, 1) := by decide +kernel
theorem dX6_draw_36 : decode cX6_draw 36 = .ok (.getfield 44, 3) := by decide +kernel
theorem dX6_draw_39 : decode cX6_draw 39 = .ok (.aload_n 0, 1) := by decide +kernel
theorem dX6_draw_40 : decode cX6_draw 40 = .ok (.getfield 26, 3) := by decide +kernel
theorem dX6_draw_43 : decode cX6_draw 43 = .ok (.iload_n 1, 1) := by decide +kernel
theorem dX6_draw_44 : decode cX6_draw 44 = .ok (.invokevirtual 215, 3) := by decide +kernel
theorem dX6_draw_47 : decode cX6_draw 47 = .ok (.istore_n 3, 1) := by decide +kernel
theorem dX6_draw_48 : decode cX6_draw 48 = .ok (.iload_n 2, 1) := by decide +kernel
theorem dX6_draw_49 : decode cX6_draw 49 = .ok (.iconst 1, 1) := by decide +kernel
theorem dX6_draw_50 : decode cX6_draw 50 = .ok (.if_icmp .eq 9, 3) := by decide +kernel
theorem dX6_draw_53 : decode cX6_draw 53 = .ok (.iload_n 3, 1) := by decide +kernel
theorem dX6_draw_54 : decode cX6_draw 54 = .ok (.ldc 218, 2) := by decide +kernel
theorem dX6_draw_56 : decode cX6_draw 56 = .ok (.if_icmp .ne 7, 3) := by decide +kernel
theorem dX6_draw_59 : decode cX6_draw 59 = .ok (.iload_n 3, 1) := by decide +kernel
theorem dX6_draw_60 : decode cX6_draw 60 = .ok (.goto 7, 3) := by decide +kernel
theorem dX6_draw_63 : decode cX6_draw 63 = .ok (.iload_n 3, 1) := by decide +kernel
theorem dX6_draw_64 : decode cX6_draw 64 = .ok (.invokestatic 219, 3) := by decide +kernel
theorem dX6_draw_67 : decode cX6_draw 67 = .ok (.ireturn, 1) := by decide +kernel
theorem dX6_rests_0 : decode cX6_rests 0 = .ok (.aload_n 0, 1) := by decide +kernel
theorem dX6_rests_1 : decode cX6_rests 1 = .ok (.iload_n 1, 1) := by decide +kernel
theorem dX6_rests_2 : decode cX6_rests 2 = .ok (.invokevirtual 158, 3) := by decide +kernel
theorem dX6_rests_5 : decode cX6_rests 5 = .ok (.ifCond .eq 16, 3) := by decide +kernel
theorem dX6_rests_8 : decode cX6_rests 8 = .ok (.aload_n 0, 1) := by decide +kernel
theorem dX6_rests_9 : decode cX6_rests 9 = .ok (.iload_n 2, 1) := by decide +kernel
theorem dX6_rests_10 : decode cX6_rests 10 = .ok (.invokevirtual 158, 3) := by decide +kernel
theorem dX6_rests_13 : decode cX6_rests 13 = .ok (.ifCond .eq 8, 3) := by decide +kernel
theorem dX6_rests_16 : decode cX6_rests 16 = .ok (.iload_n 1, 1) := by decide +kernel
theorem dX6_rests_17 : decode cX6_rests 17 = .ok (.iload_n 2, 1) := by decide +kernel
theorem dX6_rests_18 : decode cX6_rests 18 = .ok (.if_icmp .ne 6, 3) := by decide +kernel
theorem dX6_rests_21 : decode cX6_rests 21 = .ok (.ldc 67, 2) := by decide +kernel
theorem dX6_rests_23 : decode cX6_rests 23 = .ok (.ireturn, 1) := by decide +kernel
theorem dX6_rests_24 : decode cX6_rests 24 = .ok (.iload_n 3, 1) := by decide +kernel
theorem dX6_rests_25 : decode cX6_rests 25 = .ok (.iconst 5, 1) := by decide +kernel
theorem dX6_rests_26 : decode cX6_rests 26 = .ok (.bipush 20, 2) := by decide +kernel
theorem dX6_rests_28 : decode cX6_rests 28 = .ok (.invokestatic 63, 3) := by decide +kernel
theorem dX6_rests_31 : decode cX6_rests 31 = .ok (.ifCond .eq 9, 3) := by decide +kernel
theorem dX6_rests_34 : decode cX6_rests 34 = .ok (.iload 4, 2) := by decide +kernel
theorem dX6_rests_36 : decode cX6_rests 36 = .ok (.iconst (-1), 1) := by decide +kernel
theorem dX6_rests_37 : decode cX6_rests 37 = .ok (.if_icmp .ge 6, 3) := by decide +kernel
theorem dX6_rests_40 : decode cX6_rests 40 = .ok (.ldc 67, 2) := by decide +kernel
theorem dX6_rests_42 : decode cX6_rests 42 = .ok (.ireturn, 1) := by decide +kernel
theorem dX6_rests_43 : decode cX6_rests 43 = .ok (.aload_n 0, 1) := by decide +kernel
theorem dX6_rests_44 : decode cX6_rests 44 = .ok (.getfield 44, 3) := by decide +kernel
theorem dX6_rests_47 : decode cX6_rests 47 = .ok (.aload_n 0, 1) := by decide +kernel
theorem dX6_rests_48 : decode cX6_rests 48 = .ok (.getfield 26, 3) := by decide +kernel
theorem dX6_rests_51 : decode cX6_rests 51 = .ok (.iload_n 1, 1) := by decide +kernel
theorem dX6_rests_52 : decode cX6_rests 52 = .ok (.iload_n 2, 1) := by decide +kernel
theorem dX6_rests_53 : decode cX6_rests 53 = .ok (.iload_n 3, 1) := by decide +kernel
theorem dX6_rests_54 : decode cX6_rests 54 = .ok (.invokevirtual 224, 3) := by decide +kernel
theorem dX6_rests_57 : decode cX6_rests 57 = .ok (.aload_n 0, 1) := by decide +kernel
theorem dX6_rests_58 : decode cX6_rests 58 = .ok (.getfield 44, 3) := by decide +kernel
theorem dX6_rests_61 : decode cX6_rests 61 = .ok (.iload 4, 2) := by decide +kernel
theorem dX6_rests_63 : decode cX6_rests 63 = .ok (.invokevirtual 228, 3) := by decide +kernel
theorem dX6_rests_66 : decode cX6_rests 66 = .ok (.ireturn, 1) := by decide +kernel
theorem dX6_fits_0 : decode cX6_fits 0 = .ok (.aload_n 0, 1) := by decide +kernel
theorem dX6_fits_1 : decode cX6_fits 1 = .ok (.iload_n 1, 1) := by decide +kernel
theorem dX6_fits_2 : decode cX6_fits 2 = .ok (.invokevirtual 158, 3) := by decide +kernel
theorem dX6_fits_5 : decode cX6_fits 5 = .ok (.ifCond .eq 31, 3) := by decide +kernel
theorem dX6_fits_8 : decode cX6_fits 8 = .ok (.iload_n 2, 1) := by decide +kernel
theorem dX6_fits_9 : decode cX6_fits 9 = .ok (.invokestatic 59, 3) := by decide +kernel
theorem dX6_fits_12 : decode cX6_fits 12 = .ok (.ifCond .eq 24, 3) := by decide +kernel
theorem dX6_fits_15 : decode cX6_fits 15 = .ok (.iload 4, 2) := by decide +kernel
theorem dX6_fits_17 : decode cX6_fits 17 = .ok (.iconst 1, 1) := by decide +kernel
theorem dX6_fits_18 : decode cX6_fits 18 = .ok (.bipush 12, 2) := by decide +kernel
theorem dX6_fits_20 : decode cX6_fits 20 = .ok (.invokestatic 63, 3) := by decide +kernel
theorem dX6_fits_23 : decode cX6_fits 23 = .ok (.ifCond .eq 13, 3) := by decide +kernel
theorem dX6_fits_26 : decode cX6_fits 26 = .ok (.iload 5, 2) := by decide +kernel
theorem dX6_fits_28 : decode cX6_fits 28 = .ok (.iconst 0, 1) := by decide +kernel
theorem dX6_fits_29 : decode cX6_fits 29 = .ok (.iconst 4, 1) := by decide +kernel
theorem dX6_fits_30 : decode cX6_fits 30 = .ok (.invokestatic 63, 3) := by decide +kernel
theorem dX6_fits_33 : decode cX6_fits 33 = .ok (.ifCond .ne 6, 3) := by decide +kernel
theorem dX6_fits_36 : decode cX6_fits 36 = .ok (.ldc 67, 2) := by decide +kernel
theorem dX6_fits_38 : decode cX6_fits 38 = .ok (.ireturn, 1) := by decide +kernel
theorem dX6_fits_39 : decode cX6_fits 39 = .ok (.aload_n 0, 1) := by decide +kernel
theorem dX6_fits_40 : decode cX6_fits 40 = .ok (.getfield 10, 3) := by decide +kernel
theorem dX6_fits_43 : decode cX6_fits 43 = .ok (.iload_n 2, 1) := by decide +kernel
theorem dX6_fits_44 : decode cX6_fits 44 = .ok (.invokevirtual 79, 3) := by decide +kernel
theorem dX6_fits_47 : decode cX6_fits 47 = .ok (.ifCond .eq 9, 3) := by decide +kernel
theorem dX6_fits_50 : decode cX6_fits 50 = .ok (.aload_n 0, 1) := by decide +kernel
theorem dX6_fits_51 : decode cX6_fits 51 = .ok (.iconst 1, 1) := by decide +kernel
theorem dX6_fits_52 : decode cX6_fits 52 = .ok (.invokevirtual 68, 3) := by decide +kernel
theorem dX6_fits_55 : decode cX6_fits 55 = .ok (.ireturn, 1) := by decide +kernel
theorem dX6_fits_56 : decode cX6_fits 56 = .ok (.aload_n 0, 1) := by decide +kernel
theorem dX6_fits_57 : decode cX6_fits 57 = .ok (.getfield 10, 3) := by decide +kernel
theorem dX6_fits_60 : decode cX6_fits 60 = .ok (.iload_n 2, 1) := by decide +kernel
theorem dX6_fits_61 : decode cX6_fits 61 = .ok (.iload_n 3, 1) := by decide +kernel
theorem dX6_fits_62 : decode cX6_fits 62 = .ok (.iload 4, 2) := by decide +kernel
theorem dX6_fits_64 : decode cX6_fits 64 = .ok (.invokevirtual 82, 3) := by decide +kernel
theorem dX6_fits_67 : decode cX6_fits 67 = .ok (.ifCond .ne 9, 3) := by decide +kernel
theorem dX6_fits_70 : decode cX6_fits 70 = .ok (.aload_n 0, 1) := by decide +kernel
theorem dX6_fits_71 : decode cX6_fits 71 = .ok (.iconst 2, 1) := by decide +kernel
theorem dX6_fits_72 : decode cX6_fits 72 = .ok (.invokevirtual 68, 3) := by decide +kernel
theorem dX6_fits_75 : decode cX6_fits 75 = .ok (.ireturn, 1) := by decide +kernel
theorem dX6_fits_76 : decode cX6_fits 76 = .ok (.aload_n 0, 1) := by decide +kernel
theorem dX6_fits_77 : decode cX6_fits 77 = .ok (.aload_n 0, 1) := by decide +kernel
theorem dX6_fits_78 : decode cX6_fits 78 = .ok (.getfield 44, 3) := by decide +kernel
theorem dX6_fits_81 : decode cX6_fits 81 = .ok (.aload_n 0, 1) := by decide +kernel
theorem dX6_fits_82 : decode cX6_fits 82 = .ok (.getfield 26, 3) := by decide +kernel
theorem dX6_fits_85 : decode cX6_fits 85 = .ok (.iload_n 1, 1) := by decide +kernel
theorem dX6_fits_86 : decode cX6_fits 86 = .ok (.aload_n 0, 1) := by decide +kernel
theorem dX6_fits_87 : decode cX6_fits 87 = .ok (.getfield 10, 3) := by decide +kernel
theorem dX6_fits_90 : decode cX6_fits 90 = .ok (.getfield 93, 3) := by decide +kernel
theorem dX6_fits_93 : decode cX6_fits 93 = .ok (.iload_n 2, 1) := by decide +kernel
theorem dX6_fits_94 : decode cX6_fits 94 = .ok (.invokestatic 96, 3) := by decide +kernel
theorem dX6_fits_97 : decode cX6_fits 97 = .ok (.iload_n 3, 1) := by decide +kernel
theorem dX6_fits_98 : decode cX6_fits 98 = .ok (.iadd, 1) := by decide +kernel
