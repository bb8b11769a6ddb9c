theorem dX7_rests_17 : decode cX7_rests 17 = .ok (.iload_n 2, 1) := by decide +kernel
theorem dX7_rests_18 : decode cX7_rests 18 = .ok (.if_icmp .eq 19, 3) := by decide +kernel
theorem dX7_rests_21 : decode cX7_rests 21 = .ok (.iload_n 3, 1) := by decide +kernel
theorem dX7_rests_22 : decode cX7_rests 22 = .ok (.iconst 5, 1) := by decide +kernel
theorem dX7_rests_23 : decode cX7_rests 23 = .ok (.bipush 20, 2) := by decide +kernel
theorem dX7_rests_25 : decode cX7_rests 25 = .ok (.invokestatic 65, 3) := by decide +kernel
theorem dX7_rests_28 : decode cX7_rests 28 = .ok (.ifCond .eq 9, 3) := by decide +kernel
theorem dX7_rests_31 : decode cX7_rests 31 = .ok (.iload 4, 2) := by decide +kernel
theorem dX7_rests_33 : decode cX7_rests 33 = .ok (.iconst (-1), 1) := by decide +kernel
theorem dX7_rests_34 : decode cX7_rests 34 = .ok (.if_icmp .ge 6, 3) := by decide +kernel
theorem dX7_rests_37 : decode cX7_rests 37 = .ok (.ldc 73, 2) := by decide +kernel
theorem dX7_rests_39 : decode cX7_rests 39 = .ok (.ireturn, 1) := by decide +kernel
theorem dX7_rests_40 : decode cX7_rests 40 = .ok (.iconst 0, 1) := by decide +kernel
theorem dX7_rests_41 : decode cX7_rests 41 = .ok (.istore 5, 2) := by decide +kernel
theorem dX7_rests_43 : decode cX7_rests 43 = .ok (.iload 5, 2) := by decide +kernel
theorem dX7_rests_45 : decode cX7_rests 45 = .ok (.bipush 25, 2) := by decide +kernel
theorem dX7_rests_47 : decode cX7_rests 47 = .ok (.if_icmp .ge 24, 3) := by decide +kernel
theorem dX7_rests_50 : decode cX7_rests 50 = .ok (.aload_n 0, 1) := by decide +kernel
theorem dX7_rests_51 : decode cX7_rests 51 = .ok (.iload_n 1, 1) := by decide +kernel
theorem dX7_rests_52 : decode cX7_rests 52 = .ok (.iload_n 2, 1) := by decide +kernel
theorem dX7_rests_53 : decode cX7_rests 53 = .ok (.iload_n 3, 1) := by decide +kernel
theorem dX7_rests_54 : decode cX7_rests 54 = .ok (.iload 5, 2) := by decide +kernel
theorem dX7_rests_56 : decode cX7_rests 56 = .ok (.iconst 5, 1) := by decide +kernel
theorem dX7_rests_57 : decode cX7_rests 57 = .ok (.idiv, 1) := by decide +kernel
theorem dX7_rests_58 : decode cX7_rests 58 = .ok (.iload 5, 2) := by decide +kernel
theorem dX7_rests_60 : decode cX7_rests 60 = .ok (.iconst 5, 1) := by decide +kernel
theorem dX7_rests_61 : decode cX7_rests 61 = .ok (.irem, 1) := by decide +kernel
theorem dX7_rests_62 : decode cX7_rests 62 = .ok (.invokevirtual 220, 3) := by decide +kernel
theorem dX7_rests_65 : decode cX7_rests 65 = .ok (.iinc 5 1, 3) := by decide +kernel
theorem dX7_rests_68 : decode cX7_rests 68 = .ok (.goto (-25), 3) := by decide +kernel
theorem dX7_rests_71 : decode cX7_rests 71 = .ok (.iconst 0, 1) := by decide +kernel
theorem dX7_rests_72 : decode cX7_rests 72 = .ok (.istore 5, 2) := by decide +kernel
theorem dX7_rests_74 : decode cX7_rests 74 = .ok (.iconst 0, 1) := by decide +kernel
theorem dX7_rests_75 : decode cX7_rests 75 = .ok (.istore 6, 2) := by decide +kernel
theorem dX7_rests_77 : decode cX7_rests 77 = .ok (.iload 6, 2) := by decide +kernel
theorem dX7_rests_79 : decode cX7_rests 79 = .ok (.bipush 25, 2) := by decide +kernel
theorem dX7_rests_81 : decode cX7_rests 81 = .ok (.if_icmp .ge 47, 3) := by decide +kernel
theorem dX7_rests_84 : decode cX7_rests 84 = .ok (.aload_n 0, 1) := by decide +kernel
theorem dX7_rests_85 : decode cX7_rests 85 = .ok (.iload 6, 2) := by decide +kernel
theorem dX7_rests_87 : decode cX7_rests 87 = .ok (.iconst 5, 1) := by decide +kernel
theorem dX7_rests_88 : decode cX7_rests 88 = .ok (.idiv, 1) := by decide +kernel
theorem dX7_rests_89 : decode cX7_rests 89 = .ok (.iload 6, 2) := by decide +kernel
theorem dX7_rests_91 : decode cX7_rests 91 = .ok (.iconst 5, 1) := by decide +kernel
theorem dX7_rests_92 : decode cX7_rests 92 = .ok (.irem, 1) := by decide +kernel
theorem dX7_rests_93 : decode cX7_rests 93 = .ok (.invokevirtual 224, 3) := by decide +kernel
theorem dX7_rests_96 : decode cX7_rests 96 = .ok (.ifCond .eq 26, 3) := by decide +kernel
theorem dX7_rests_99 : decode cX7_rests 99 = .ok (.iload 5, 2) := by decide +kernel
theorem dX7_rests_101 : decode cX7_rests 101 = .ok (.iload 4, 2) := by decide +kernel
theorem dX7_rests_103 : decode cX7_rests 103 = .ok (.if_icmp .ne 16, 3) := by decide +kernel
theorem dX7_rests_106 : decode cX7_rests 106 = .ok (.bipush 10, 2) := by decide +kernel
theorem dX7_rests_108 : decode cX7_rests 108 = .ok (.iload 6, 2) := by decide +kernel
theorem dX7_rests_110 : decode cX7_rests 110 = .ok (.iconst 5, 1) := by decide +kernel
theorem dX7_rests_111 : decode cX7_rests 111 = .ok (.idiv, 1) := by decide +kernel
theorem dX7_rests_112 : decode cX7_rests 112 = .ok (.imul, 1) := by decide +kernel
theorem dX7_rests_113 : decode cX7_rests 113 = .ok (.iload 6, 2) := by decide +kernel
theorem dX7_rests_115 : decode cX7_rests 115 = .ok (.iconst 5, 1) := by decide +kernel
theorem dX7_rests_116 : decode cX7_rests 116 = .ok (.irem, 1) := by decide +kernel
theorem dX7_rests_117 : decode cX7_rests 117 = .ok (.iadd, 1) := by decide +kernel
theorem dX7_rests_118 : decode cX7_rests 118 = .ok (.ireturn, 1) := by decide +kernel
theorem dX7_rests_119 : decode cX7_rests 119 = .ok (.iinc 5 1, 3) := by decide +kernel
theorem dX7_rests_122 : decode cX7_rests 122 = .ok (.iinc 6 1, 3) := by decide +kernel
theorem dX7_rests_125 : decode cX7_rests 125 = .ok (.goto (-48), 3) := by decide +kernel
theorem dX7_rests_128 : decode cX7_rests 128 = .ok (.iload 4, 2) := by decide +kernel
theorem dX7_rests_130 : decode cX7_rests 130 = .ok (.iconst (-1), 1) := by decide +kernel
theorem dX7_rests_131 : decode cX7_rests 131 = .ok (.if_icmp .ne 8, 3) := by decide +kernel
theorem dX7_rests_134 : decode cX7_rests 134 = .ok (.iload 5, 2) := by decide +kernel
theorem dX7_rests_136 : decode cX7_rests 136 = .ok (.goto 5, 3) := by decide +kernel
theorem dX7_rests_139 : decode cX7_rests 139 = .ok (.ldc 59, 2) := by decide +kernel
theorem dX7_rests_141 : decode cX7_rests 141 = .ok (.ireturn, 1) := by decide +kernel
theorem dX7_keepsSo_0 : decode cX7_keepsSo 0 = .ok (.aload_n 0, 1) := by decide +kernel
theorem dX7_keepsSo_1 : decode cX7_keepsSo 1 = .ok (.getfield 25, 3) := by decide +kernel
theorem dX7_keepsSo_4 : decode cX7_keepsSo 4 = .ok (.iconst 0, 1) := by decide +kernel
theorem dX7_keepsSo_5 : decode cX7_keepsSo 5 = .ok (.aload_n 0, 1) := by decide +kernel
theorem dX7_keepsSo_6 : decode cX7_keepsSo 6 = .ok (.getfield 31, 3) := by decide +kernel
theorem dX7_keepsSo_9 : decode cX7_keepsSo 9 = .ok (.iconst 0, 1) := by decide +kernel
theorem dX7_keepsSo_10 : decode cX7_keepsSo 10 = .ok (.invokestatic 147, 3) := by decide +kernel
theorem dX7_keepsSo_13 : decode cX7_keepsSo 13 = .ok (.aload_n 0, 1) := by decide +kernel
theorem dX7_keepsSo_14 : decode cX7_keepsSo 14 = .ok (.getfield 31, 3) := by decide +kernel
theorem dX7_keepsSo_17 : decode cX7_keepsSo 17 = .ok (.iload 4, 2) := by decide +kernel
theorem dX7_keepsSo_19 : decode cX7_keepsSo 19 = .ok (.iload 5, 2) := by decide +kernel
theorem dX7_keepsSo_21 : decode cX7_keepsSo 21 = .ok (.iastore, 1) := by decide +kernel
theorem dX7_keepsSo_22 : decode cX7_keepsSo 22 = .ok (.iconst 1, 1) := by decide +kernel
theorem dX7_keepsSo_23 : decode cX7_keepsSo 23 = .ok (.istore 6, 2) := by decide +kernel
theorem dX7_keepsSo_25 : decode cX7_keepsSo 25 = .ok (.iconst 0, 1) := by decide +kernel
theorem dX7_keepsSo_26 : decode cX7_keepsSo 26 = .ok (.istore 7, 2) := by decide +kernel
theorem dX7_keepsSo_28 : decode cX7_keepsSo 28 = .ok (.iload 7, 2) := by decide +kernel
theorem dX7_keepsSo_30 : decode cX7_keepsSo 30 = .ok (.iload_n 3, 1) := by decide +kernel
theorem dX7_keepsSo_31 : decode cX7_keepsSo 31 = .ok (.if_icmp .ge 54, 3) := by decide +kernel
theorem dX7_keepsSo_34 : decode cX7_keepsSo 34 = .ok (.aload_n 0, 1) := by decide +kernel
theorem dX7_keepsSo_35 : decode cX7_keepsSo 35 = .ok (.aload_n 0, 1) := by decide +kernel
theorem dX7_keepsSo_36 : decode cX7_keepsSo 36 = .ok (.getfield 31, 3) := by decide +kernel
theorem dX7_keepsSo_39 : decode cX7_keepsSo 39 = .ok (.invokevirtual 187, 3) := by decide +kernel
theorem dX7_keepsSo_42 : decode cX7_keepsSo 42 = .ok (.iload 6, 2) := by decide +kernel
theorem dX7_keepsSo_44 : decode cX7_keepsSo 44 = .ok (.ifCond .eq 32, 3) := by decide +kernel
theorem dX7_keepsSo_47 : decode cX7_keepsSo 47 = .ok (.aload_n 0, 1) := by decide +kernel
theorem dX7_keepsSo_48 : decode cX7_keepsSo 48 = .ok (.getfield 31, 3) := by decide +kernel
theorem dX7_keepsSo_51 : decode cX7_keepsSo 51 = .ok (.bipush 13, 2) := by decide +kernel
theorem dX7_keepsSo_53 : decode cX7_keepsSo 53 = .ok (.iconst 4, 1) := by decide +kernel
theorem dX7_keepsSo_54 : decode cX7_keepsSo 54 = .ok (.iload_n 1, 1) := by decide +kernel
theorem dX7_keepsSo_55 : decode cX7_keepsSo 55 = .ok (.imul, 1) := by decide +kernel
theorem dX7_keepsSo_56 : decode cX7_keepsSo 56 = .ok (.iadd, 1) := by decide +kernel
theorem dX7_keepsSo_57 : decode cX7_keepsSo 57 = .ok (.iconst 1, 1) := by decide +kernel
theorem dX7_keepsSo_58 : decode cX7_keepsSo 58 = .ok (.iadd, 1) := by decide +kernel
theorem dX7_keepsSo_59 : decode cX7_keepsSo 59 = .ok (.iaload, 1) := by decide +kernel
theorem dX7_keepsSo_60 : decode cX7_keepsSo 60 = .ok (.aload_n 0, 1) := by decide +kernel
theorem dX7_keepsSo_61 : decode cX7_keepsSo 61 = .ok (.getfield 16, 3) := by decide +kernel
theorem dX7_keepsSo_64 : decode cX7_keepsSo 64 = .ok (.iload_n 2, 1) := by decide +kernel
theorem dX7_keepsSo_65 : decode cX7_keepsSo 65 = .ok (.iload 7, 2) := by decide +kernel
theorem dX7_keepsSo_67 : decode cX7_keepsSo 67 = .ok (.iadd, 1) := by decide +kernel
theorem dX7_keepsSo_68 : decode cX7_keepsSo 68 = .ok (.iaload, 1) := by decide +kernel
theorem dX7_keepsSo_69 : decode cX7_keepsSo 69 = .ok (.if_icmp .ne 7, 3) := by decide +kernel
theorem dX7_keepsSo_72 : decode cX7_keepsSo 72 = .ok (.iconst 1, 1) := by decide +kernel
theorem dX7_keepsSo_73 : decode cX7_keepsSo 73 = .ok (.goto 4, 3) := by decide +kernel
theorem dX7_keepsSo_76 : decode cX7_keepsSo 76 = .ok (.iconst 0, 1) := by decide +kernel
theorem dX7_keepsSo_77 : decode cX7_keepsSo 77 = .ok (.istore 6, 2) := by decide +kernel
theorem dX7_keepsSo_79 : decode cX7_keepsSo 79 = .ok (.iinc 7 1, 3) := by decide +kernel
theorem dX7_keepsSo_82 : decode cX7_keepsSo 82 = .ok (.goto (-54), 3) := by decide +kernel
theorem dX7_keepsSo_85 : decode cX7_keepsSo 85 = .ok (.iload 6, 2) := by decide +kernel
theorem dX7_keepsSo_87 : decode cX7_keepsSo 87 = .ok (.ireturn, 1) := by decide +kernel
theorem dX7_fits_0 : decode cX7_fits 0 = .ok (.aload_n 0, 1) := by decide +kernel
theorem dX7_fits_1 : decode cX7_fits 1 = .ok (.iload_n 1, 1) := by decide +kernel
theorem dX7_fits_2 : decode cX7_fits 2 = .ok (.invokevirtual 195, 3) := by decide +kernel
theorem dX7_fits_5 : decode cX7_fits 5 = .ok (.ifCond .eq 31, 3) := by decide +kernel
theorem dX7_fits_8 : decode cX7_fits 8 = .ok (.iload_n 2, 1) := by decide +kernel
theorem dX7_fits_9 : decode cX7_fits 9 = .ok (.invokestatic 69, 3) := by decide +kernel
theorem dX7_fits_12 : decode cX7_fits 12 = .ok (.ifCond .eq 24, 3) := by decide +kernel
theorem dX7_fits_15 : decode cX7_fits 15 = .ok (.iload 4, 2) := by decide +kernel
theorem dX7_fits_17 : decode cX7_fits 17 = .ok (.iconst 1, 1) := by decide +kernel
theorem dX7_fits_18 : decode cX7_fits 18 = .ok (.bipush 12, 2) := by decide +kernel
theorem dX7_fits_20 : decode cX7_fits 20 = .ok (.invokestatic 65, 3) := by decide +kernel
theorem dX7_fits_23 : decode cX7_fits 23 = .ok (.ifCond .eq 13, 3) := by decide +kernel
theorem dX7_fits_26 : decode cX7_fits 26 = .ok (.iload 5, 2) := by decide +kernel
theorem dX7_fits_28 : decode cX7_fits 28 = .ok (.iconst 0, 1) := by decide +kernel
theorem dX7_fits_29 : decode cX7_fits 29 = .ok (.iconst 4, 1) := by decide +kernel
theorem dX7_fits_30 : decode cX7_fits 30 = .ok (.invokestatic 65, 3) := by decide +kernel
theorem dX7_fits_33 : decode cX7_fits 33 = .ok (.ifCond .ne 6, 3) := by decide +kernel
theorem dX7_fits_36 : decode cX7_fits 36 = .ok (.ldc 73, 2) := by decide +kernel
theorem dX7_fits_38 : decode cX7_fits 38 = .ok (.ireturn, 1) := by decide +kernel
theorem dX7_fits_39 : decode cX7_fits 39 = .ok (.aload_n 0, 1) := by decide +kernel
theorem dX7_fits_40 : decode cX7_fits 40 = .ok (.iload_n 2, 1) := by decide +kernel
theorem dX7_fits_41 : decode cX7_fits 41 = .ok (.invokevirtual 81, 3) := by decide +kernel
theorem dX7_fits_44 : decode cX7_fits 44 = .ok (.ifCond .eq 9, 3) := by decide +kernel
theorem dX7_fits_47 : decode cX7_fits 47 = .ok (.aload_n 0, 1) := by decide +kernel
theorem dX7_fits_48 : decode cX7_fits 48 = .ok (.iconst 1, 1) := by decide +kernel
theorem dX7_fits_49 : decode cX7_fits 49 = .ok (.invokevirtual 74, 3) := by decide +kernel
theorem dX7_fits_52 : decode cX7_fits 52 = .ok (.ireturn, 1) := by decide +kernel
theorem dX7_fits_53 : decode cX7_fits 53 = .ok (.aload_n 0, 1) := by decide +kernel
theorem dX7_fits_54 : decode cX7_fits 54 = .ok (.iload_n 2, 1) := by decide +kernel
theorem dX7_fits_55 : decode cX7_fits 55 = .ok (.iload_n 3, 1) := by decide +kernel
theorem dX7_fits_56 : decode cX7_fits 56 = .ok (.iload 4, 2) := by decide +kernel
theorem dX7_fits_58 : decode cX7_fits 58 = .ok (.invokevirtual 88, 3) := by decide +kernel
theorem dX7_fits_61 : decode cX7_fits 61 = .ok (.ifCond .ne 9, 3) := by decide +kernel
theorem dX7_fits_64 : decode cX7_fits 64 = .ok (.aload_n 0, 1) := by decide +kernel
theorem dX7_fits_65 : decode cX7_fits 65 = .ok (.iconst 2, 1) := by decide +kernel
theorem dX7_fits_66 : decode cX7_fits 66 = .ok (.invokevirtual 74, 3) := by decide +kernel
theorem dX7_fits_69 : decode cX7_fits 69 = .ok (.ireturn, 1) := by decide +kernel
theorem dX7_fits_70 : decode cX7_fits 70 = .ok (.bipush 40, 2) := by decide +kernel
theorem dX7_fits_72 : decode cX7_fits 72 = .ok (.iload_n 2, 1) := by decide +kernel
theorem dX7_fits_73 : decode cX7_fits 73 = .ok (.imul, 1) := by decide +kernel
theorem dX7_fits_74 : decode cX7_fits 74 = .ok (.iload_n 3, 1) := by decide +kernel
theorem dX7_fits_75 : decode cX7_fits 75 = .ok (.iadd, 1) := by decide +kernel
theorem dX7_fits_76 : decode cX7_fits 76 = .ok (.istore 6, 2) := by decide +kernel
theorem dX7_fits_78 : decode cX7_fits 78 = .ok (.bipush 13, 2) := by decide +kernel
theorem dX7_fits_80 : decode cX7_fits 80 = .ok (.iconst 4, 1) := by decide +kernel
theorem dX7_fits_81 : decode cX7_fits 81 = .ok (.iload_n 1, 1) := by decide +kernel
theorem dX7_fits_82 : decode cX7_fits 82 = .ok (.imul, 1) := by decide +kernel
theorem dX7_fits_83 : decode cX7_fits 83 = .ok (.iadd, 1) := by decide +kernel
theorem dX7_fits_84 : decode cX7_fits 84 = .ok (.istore 7, 2) := by decide +kernel
theorem dX7_fits_86 : decode cX7_fits 86 = .ok (.iconst 0, 1) := by decide +kernel
theorem dX7_fits_87 : decode cX7_fits 87 = .ok (.istore 8, 2) := by decide +kernel
theorem dX7_fits_89 : decode cX7_fits 89 = .ok (.iconst 0, 1) := by decide +kernel
theorem dX7_fits_90 : decode cX7_fits 90 = .ok (.istore 9, 2) := by decide +kernel
theorem dX7_fits_92 : decode cX7_fits 92 = .ok (.ldc 59, 2) := by decide +kernel
theorem dX7_fits_94 : decode cX7_fits 94 = .ok (.istore 10, 2) := by decide +kernel
theorem dX7_fits_96 : decode cX7_fits 96 = .ok (.iload 5, 2) := by decide +kernel
theorem dX7_fits_98 : decode cX7_fits 98 = .ok (.iconst 3, 1) := by decide +kernel
theorem dX7_fits_99 : decode cX7_fits 99 = .ok (.if_icmp .ge 109, 3) := by decide +kernel
theorem dX7_fits_102 : decode cX7_fits 102 = .ok (.iload 5, 2) := by decide +kernel
theorem dX7_fits_104 : decode cX7_fits 104 = .ok (.ifCond .ne 7, 3) := by decide +kernel
theorem dX7_fits_107 : decode cX7_fits 107 = .ok (.iconst 5, 1) := by decide +kernel
theorem dX7_fits_108 : decode cX7_fits 108 = .ok (.goto 15, 3) := by decide +kernel
theorem dX7_fits_111 : decode cX7_fits 111 = .ok (.iload 5, 2) := by decide +kernel
theorem dX7_fits_113 : decode cX7_fits 113 = .ok (.iconst 1, 1) := by decide +kernel
theorem dX7_fits_114 : decode cX7_fits 114 = .ok (.if_icmp .ne 8, 3) := by decide +kernel
theorem dX7_fits_117 : decode cX7_fits 117 = .ok (.bipush 15, 2) := by decide +kernel
theorem dX7_fits_119 : decode cX7_fits 119 = .ok (.goto 4, 3) := by decide +kernel
theorem dX7_fits_122 : decode cX7_fits 122 = .ok (.iconst 1, 1) := by decide +kernel
theorem dX7_fits_123 : decode cX7_fits 123 = .ok (.istore 11, 2) := by decide +kernel
theorem dX7_fits_125 : decode cX7_fits 125 = .ok (.iload 5, 2) := by decide +kernel
theorem dX7_fits_127 : decode cX7_fits 127 = .ok (.ifCond .ne 7, 3) := by decide +kernel
theorem dX7_fits_130 : decode cX7_fits 130 = .ok (.iconst 1, 1) := by decide +kernel
theorem dX7_fits_131 : decode cX7_fits 131 = .ok (.goto 4, 3) := by decide +kernel
theorem dX7_fits_134 : decode cX7_fits 134 = .ok (.iconst 0, 1) := by decide +kernel
theorem dX7_fits_135 : decode cX7_fits 135 = .ok (.istore 12, 2) := by decide +kernel
theorem dX7_fits_137 : decode cX7_fits 137 = .ok (.iload 12, 2) := by decide +kernel
theorem dX7_fits_139 : decode cX7_fits 139 = .ok (.iload 11, 2) := by decide +kernel
theorem dX7_fits_141 : decode cX7_fits 141 = .ok (.if_icmp .gt 60, 3) := by decide +kernel
theorem dX7_fits_144 : decode cX7_fits 144 = .ok (.iload 8, 2) := by decide +kernel
theorem dX7_fits_146 : decode cX7_fits 146 = .ok (.aload_n 0, 1) := by decide +kernel
theorem dX7_fits_147 : decode cX7_fits 147 = .ok (.iload_n 1, 1) := by decide +kernel
theorem dX7_fits_148 : decode cX7_fits 148 = .ok (.iload 6, 2) := by decide +kernel
theorem dX7_fits_150 : decode cX7_fits 150 = .ok (.iload 4, 2) := by decide +kernel
theorem dX7_fits_152 : decode cX7_fits 152 = .ok (.iload 5, 2) := by decide +kernel
theorem dX7_fits_154 : decode cX7_fits 154 = .ok (.ifCond .ne 8, 3) := by decide +kernel
theorem dX7_fits_157 : decode cX7_fits 157 = .ok (.iload 7, 2) := by decide +kernel
theorem dX7_fits_159 : decode cX7_fits 159 = .ok (.goto 17, 3) := by decide +kernel
theorem dX7_fits_162 : decode cX7_fits 162 = .ok (.iload 5, 2) := by decide +kernel
theorem dX7_fits_164 : decode cX7_fits 164 = .ok (.iconst 1, 1) := by decide +kernel
theorem dX7_fits_165 : decode cX7_fits 165 = .ok (.if_icmp .ne 7, 3) := by decide +kernel
theorem dX7_fits_168 : decode cX7_fits 168 = .ok (.iconst 0, 1) := by decide +kernel
theorem dX7_fits_169 : decode cX7_fits 169 = .ok (.goto 7, 3) := by decide +kernel
theorem dX7_fits_172 : decode cX7_fits 172 = .ok (.iload 7, 2) := by decide +kernel
theorem dX7_fits_174 : decode cX7_fits 174 = .ok (.iconst 3, 1) := by decide +kernel
theorem dX7_fits_175 : decode cX7_fits 175 = .ok (.iadd, 1) := by decide +kernel
theorem dX7_fits_176 : decode cX7_fits 176 = .ok (.iload 12, 2) := by decide +kernel
theorem dX7_fits_178 : decode cX7_fits 178 = .ok (.invokevirtual 227, 3) := by decide +kernel
theorem dX7_fits_181 : decode cX7_fits 181 = .ok (.ifCond .eq 10, 3) := by decide +kernel
theorem dX7_fits_184 : decode cX7_fits 184 = .ok (.iconst 1, 1) := by decide +kernel
theorem dX7_fits_185 : decode cX7_fits 185 = .ok (.iload 12, 2) := by decide +kernel
theorem dX7_fits_187 : decode cX7_fits 187 = .ok (.ishl, 1) := by decide +kernel
theorem dX7_fits_188 : decode cX7_fits 188 = .ok (.goto 4, 3) := by decide +kernel
theorem dX7_fits_191 : decode cX7_fits 191 = .ok (.iconst 0, 1) := by decide +kernel
theorem dX7_fits_192 : decode cX7_fits 192 = .ok (.ior, 1) := by decide +kernel
theorem dX7_fits_193 : decode cX7_fits 193 = .ok (.istore 8, 2) := by decide +kernel
theorem dX7_fits_195 : decode cX7_fits 195 = .ok (.iinc 12 1, 3) := by decide +kernel
theorem dX7_fits_198 : decode cX7_fits 198 = .ok (.goto (-61), 3) := by decide +kernel
theorem dX7_fits_201 : decode cX7_fits 201 = .ok (.aload_n 0, 1) := by decide +kernel
theorem dX7_fits_202 : decode cX7_fits 202 = .ok (.iload 8, 2) := by decide +kernel
theorem dX7_fits_204 : decode cX7_fits 204 = .ok (.invokevirtual 78, 3) := by decide +kernel
theorem dX7_fits_207 : decode cX7_fits 207 = .ok (.ireturn, 1) := by decide +kernel
theorem dX7_fits_208 : decode cX7_fits 208 = .ok (.bipush 40, 2) := by decide +kernel
theorem dX7_fits_210 : decode cX7_fits 210 = .ok (.istore 11, 2) := by decide +kernel
theorem dX7_fits_212 : decode cX7_fits 212 = .ok (.iload 11, 2) := by decide +kernel
theorem dX7_fits_214 : decode cX7_fits 214 = .ok (.ifCond .lt 55, 3) := by decide +kernel
theorem dX7_fits_217 : decode cX7_fits 217 = .ok (.aload_n 0, 1) := by decide +kernel
theorem dX7_fits_218 : decode cX7_fits 218 = .ok (.iload_n 1, 1) := by decide +kernel
theorem dX7_fits_219 : decode cX7_fits 219 = .ok (.iload 6, 2) := by decide +kernel
theorem dX7_fits_221 : decode cX7_fits 221 = .ok (.iload 4, 2) := by decide +kernel
theorem dX7_fits_223 : decode cX7_fits 223 = .ok (.iload 7, 2) := by decide +kernel
theorem dX7_fits_225 : decode cX7_fits 225 = .ok (.iconst 1, 1) := by decide +kernel
theorem dX7_fits_226 : decode cX7_fits 226 = .ok (.iadd, 1) := by decide +kernel
theorem dX7_fits_227 : decode cX7_fits 227 = .ok (.iload 11, 2) := by decide +kernel
theorem dX7_fits_229 : decode cX7_fits 229 = .ok (.invokevirtual 227, 3) := by decide +kernel
theorem dX7_fits_232 : decode cX7_fits 232 = .ok (.istore 12, 2) := by decide +kernel
theorem dX7_fits_234 : decode cX7_fits 234 = .ok (.iload 9, 2) := by decide +kernel
theorem dX7_fits_236 : decode cX7_fits 236 = .ok (.iload 12, 2) := by decide +kernel
theorem dX7_fits_238 : decode cX7_fits 238 = .ok (.ifCond .eq 7, 3) := by decide +kernel
theorem dX7_fits_241 : decode cX7_fits 241 = .ok (.iconst 1, 1) := by decide +kernel
theorem dX7_fits_242 : decode cX7_fits 242 = .ok (.goto 4, 3) := by decide +kernel
theorem dX7_fits_245 : decode cX7_fits 245 = .ok (.iconst 0, 1) := by decide +kernel
theorem dX7_fits_246 : decode cX7_fits 246 = .ok (.iadd, 1) := by decide +kernel
theorem dX7_fits_247 : decode cX7_fits 247 = .ok (.istore 9, 2) := by decide +kernel
theorem dX7_fits_249 : decode cX7_fits 249 = .ok (.iload 12, 2) := by decide +kernel
theorem dX7_fits_251 : decode cX7_fits 251 = .ok (.ifCond .eq 8, 3) := by decide +kernel
theorem dX7_fits_254 : decode cX7_fits 254 = .ok (.iload 11, 2) := by decide +kernel
theorem dX7_fits_256 : decode cX7_fits 256 = .ok (.goto 5, 3) := by decide +kernel
theorem dX7_fits_259 : decode cX7_fits 259 = .ok (.iload 10, 2) := by decide +kernel
theorem dX7_fits_261 : decode cX7_fits 261 = .ok (.istore 10, 2) := by decide +kernel
theorem dX7_fits_263 : decode cX7_fits 263 = .ok (.iinc 11 (-1), 3) := by decide +kernel
theorem dX7_fits_266 : decode cX7_fits 266 = .ok (.goto (-54), 3) := by decide +kernel
theorem dX7_fits_269 : decode cX7_fits 269 = .ok (.aload_n 0, 1) := by decide +kernel
theorem dX7_fits_270 : decode cX7_fits 270 = .ok (.iload 5, 2) := by decide +kernel
theorem dX7_fits_272 : decode cX7_fits 272 = .ok (.iconst 3, 1) := by decide +kernel
theorem dX7_fits_273 : decode cX7_fits 273 = .ok (.if_icmp .ne 8, 3) := by decide +kernel
theorem dX7_fits_276 : decode cX7_fits 276 = .ok (.iload 9, 2) := by decide +kernel
theorem dX7_fits_278 : decode cX7_fits 278 = .ok (.goto 5, 3) := by decide +kernel
theorem dX7_fits_281 : decode cX7_fits 281 = .ok (.iload 10, 2) := by decide +kernel
theorem dX7_fits_283 : decode cX7_fits 283 = .ok (.invokevirtual 78, 3) := by decide +kernel
theorem dX7_fits_286 : decode cX7_fits 286 = .ok (.ireturn, 1) := by decide +kernel
theorem dX7_chance_0 : decode cX7_chance 0 = .ok (.aload_n 0, 1) := by decide +kernel
theorem dX7_chance_1 : decode cX7_chance 1 = .ok (.iload_n 1, 1) := by decide +kernel
theorem dX7_chance_2 : decode cX7_chance 2 = .ok (.invokevirtual 195, 3) := by decide +kernel
theorem dX7_chance_5 : decode cX7_chance 5 = .ok (.ifCond .eq 33, 3) := by decide +kernel
theorem dX7_chance_8 : decode cX7_chance 8 = .ok (.iload_n 2, 1) := by decide +kernel
theorem dX7_chance_9 : decode cX7_chance 9 = .ok (.iconst 0, 1) := by decide +kernel
theorem dX7_chance_10 : decode cX7_chance 10 = .ok (.bipush 8, 2) := by decide +kernel
theorem dX7_chance_12 : decode cX7_chance 12 = .ok (.invokestatic 65, 3) := by decide +kernel
theorem dX7_chance_15 : decode cX7_chance 15 = .ok (.ifCond .eq 23, 3) := by decide +kernel
theorem dX7_chance_18 : decode cX7_chance 18 = .ok (.iload_n 3, 1) := by decide +kernel
theorem dX7_chance_19 : decode cX7_chance 19 = .ok (.iconst 0, 1) := by decide +kernel
theorem dX7_chance_20 : decode cX7_chance 20 = .ok (.bipush 10, 2) := by decide +kernel
theorem dX7_chance_22 : decode cX7_chance 22 = .ok (.invokestatic 65, 3) := by decide +kernel
theorem dX7_chance_25 : decode cX7_chance 25 = .ok (.ifCond .eq 13, 3) := by decide +kernel
theorem dX7_chance_28 : decode cX7_chance 28 = .ok (.iload 4, 2) := by decide +kernel
theorem dX7_chance_30 : decode cX7_chance 30 = .ok (.iconst 0, 1) := by decide +kernel
theorem dX7_chance_31 : decode cX7_chance 31 = .ok (.iconst 1, 1) := by decide +kernel
theorem dX7_chance_32 : decode cX7_chance 32 = .ok (.invokestatic 65, 3) := by decide +kernel
theorem dX7_chance_35 : decode cX7_chance 35 = .ok (.ifCond .ne 6, 3) := by decide +kernel
theorem dX7_chance_38 : decode cX7_chance 38 = .ok (.ldc 73, 2) := by decide +kernel
theorem dX7_chance_40 : decode cX7_chance 40 = .ok (.ireturn, 1) := by decide +kernel
theorem dX7_chance_41 : decode cX7_chance 41 = .ok (.iconst 0, 1) := by decide +kernel
theorem dX7_chance_42 : decode cX7_chance 42 = .ok (.istore 5, 2) := by decide +kernel
theorem dX7_chance_44 : decode cX7_chance 44 = .ok (.iconst 1, 1) := by decide +kernel
theorem dX7_chance_45 : decode cX7_chance 45 = .ok (.istore 6, 2) := by decide +kernel
theorem dX7_chance_47 : decode cX7_chance 47 = .ok (.iconst 0, 1) := by decide +kernel
theorem dX7_chance_48 : decode cX7_chance 48 = .ok (.istore 7, 2) := by decide +kernel
theorem dX7_chance_50 : decode cX7_chance 50 = .ok (.iload 7, 2) := by decide +kernel
theorem dX7_chance_52 : decode cX7_chance 52 = .ok (.iload_n 2, 1) := by decide +kernel
theorem dX7_chance_53 : decode cX7_chance 53 = .ok (.if_icmp .ge 16, 3) := by decide +kernel
theorem dX7_chance_56 : decode cX7_chance 56 = .ok (.iload 6, 2) := by decide +kernel
theorem dX7_chance_58 : decode cX7_chance 58 = .ok (.bipush 10, 2) := by decide +kernel
theorem dX7_chance_60 : decode cX7_chance 60 = .ok (.imul, 1) := by decide +kernel
theorem dX7_chance_61 : decode cX7_chance 61 = .ok (.istore 6, 2) := by decide +kernel
theorem dX7_chance_63 : decode cX7_chance 63 = .ok (.iinc 7 1, 3) := by decide +kernel
theorem dX7_chance_66 : decode cX7_chance 66 = .ok (.goto (-16), 3) := by decide +kernel
theorem dX7_chance_69 : decode cX7_chance 69 = .ok (.iconst 0, 1) := by decide +kernel
theorem dX7_chance_70 : decode cX7_chance 70 = .ok (.istore 7, 2) := by decide +kernel
theorem dX7_chance_72 : decode cX7_chance 72 = .ok (.iload 7, 2) := by decide +kernel
theorem dX7_chance_74 : decode cX7_chance 74 = .ok (.iconst 1, 1) := by decide +kernel
theorem dX7_chance_75 : decode cX7_chance 75 = .ok (.iload_n 2, 1) := by decide +kernel
theorem dX7_chance_76 : decode cX7_chance 76 = .ok (.ishl, 1) := by decide +kernel
theorem dX7_chance_77 : decode cX7_chance 77 = .ok (.if_icmp .ge 120, 3) := by decide +kernel
theorem dX7_chance_80 : decode cX7_chance 80 = .ok (.iconst 1, 1) := by decide +kernel
theorem dX7_chance_81 : decode cX7_chance 81 = .ok (.istore 8, 2) := by decide +kernel
theorem dX7_chance_83 : decode cX7_chance 83 = .ok (.aload_n 0, 1) := by decide +kernel
theorem dX7_chance_84 : decode cX7_chance 84 = .ok (.getfield 25, 3) := by decide +kernel
theorem dX7_chance_87 : decode cX7_chance 87 = .ok (.iconst 0, 1) := by decide +kernel
theorem dX7_chance_88 : decode cX7_chance 88 = .ok (.aload_n 0, 1) := by decide +kernel
theorem dX7_chance_89 : decode cX7_chance 89 = .ok (.getfield 31, 3) := by decide +kernel
theorem dX7_chance_92 : decode cX7_chance 92 = .ok (.iconst 0, 1) := by decide +kernel
theorem dX7_chance_93 : decode cX7_chance 93 = .ok (.invokestatic 147, 3) := by decide +kernel
theorem dX7_chance_96 : decode cX7_chance 96 = .ok (.iconst 0, 1) := by decide +kernel
theorem dX7_chance_97 : decode cX7_chance 97 = .ok (.istore 9, 2) := by decide +kernel
theorem dX7_chance_99 : decode cX7_chance 99 = .ok (.iload 9, 2) := by decide +kernel
theorem dX7_chance_101 : decode cX7_chance 101 = .ok (.iload_n 2, 1) := by decide +kernel
theorem dX7_chance_102 : decode cX7_chance 102 = .ok (.if_icmp .ge 62, 3) := by decide +kernel
theorem dX7_chance_105 : decode cX7_chance 105 = .ok (.iload 8, 2) := by decide +kernel
theorem dX7_chance_107 : decode cX7_chance 107 = .ok (.iload 7, 2) := by decide +kernel
theorem dX7_chance_109 : decode cX7_chance 109 = .ok (.iload 9, 2) := by decide +kernel
theorem dX7_chance_111 : decode cX7_chance 111 = .ok (.invokestatic 154, 3) := by decide +kernel
theorem dX7_chance_114 : decode cX7_chance 114 = .ok (.ifCond .eq 7, 3) := by decide +kernel
theorem dX7_chance_117 : decode cX7_chance 117 = .ok (.iload_n 3, 1) := by decide +kernel
theorem dX7_chance_118 : decode cX7_chance 118 = .ok (.goto 7, 3) := by decide +kernel
theorem dX7_chance_121 : decode cX7_chance 121 = .ok (.bipush 10, 2) := by decide +kernel
theorem dX7_chance_123 : decode cX7_chance 123 = .ok (.iload_n 3, 1) := by decide +kernel
theorem dX7_chance_124 : decode cX7_chance 124 = .ok (.isub, 1) := by decide +kernel
theorem dX7_chance_125 : decode cX7_chance 125 = .ok (.imul, 1) := by decide +kernel
theorem dX7_chance_126 : decode cX7_chance 126 = .ok (.istore 8, 2) := by decide +kernel
theorem dX7_chance_128 : decode cX7_chance 128 = .ok (.aload_n 0, 1) := by decide +kernel
theorem dX7_chance_129 : decode cX7_chance 129 = .ok (.getfield 31, 3) := by decide +kernel
theorem dX7_chance_132 : decode cX7_chance 132 = .ok (.iconst 0, 1) := by decide +kernel
theorem dX7_chance_133 : decode cX7_chance 133 = .ok (.iload 7, 2) := by decide +kernel
theorem dX7_chance_135 : decode cX7_chance 135 = .ok (.iload 9, 2) := by decide +kernel
theorem dX7_chance_137 : decode cX7_chance 137 = .ok (.invokestatic 154, 3) := by decide +kernel
theorem dX7_chance_140 : decode cX7_chance 140 = .ok (.ifCond .eq 8, 3) := by decide +kernel
theorem dX7_chance_143 : decode cX7_chance 143 = .ok (.bipush 15, 2) := by decide +kernel
theorem dX7_chance_145 : decode cX7_chance 145 = .ok (.goto 4, 3) := by decide +kernel
theorem dX7_chance_148 : decode cX7_chance 148 = .ok (.iconst 0, 1) := by decide +kernel
theorem dX7_chance_149 : decode cX7_chance 149 = .ok (.iastore, 1) := by decide +kernel
theorem dX7_chance_150 : decode cX7_chance 150 = .ok (.aload_n 0, 1) := by decide +kernel
theorem dX7_chance_151 : decode cX7_chance 151 = .ok (.aload_n 0, 1) := by decide +kernel
theorem dX7_chance_152 : decode cX7_chance 152 = .ok (.getfield 31, 3) := by decide +kernel
theorem dX7_chance_155 : decode cX7_chance 155 = .ok (.invokevirtual 187, 3) := by decide +kernel
theorem dX7_chance_158 : decode cX7_chance 158 = .ok (.iinc 9 1, 3) := by decide +kernel
theorem dX7_chance_161 : decode cX7_chance 161 = .ok (.goto (-62), 3) := by decide +kernel
theorem dX7_chance_164 : decode cX7_chance 164 = .ok (.iload 5, 2) := by decide +kernel
theorem dX7_chance_166 : decode cX7_chance 166 = .ok (.aload_n 0, 1) := by decide +kernel
theorem dX7_chance_167 : decode cX7_chance 167 = .ok (.getfield 31, 3) := by decide +kernel
theorem dX7_chance_170 : decode cX7_chance 170 = .ok (.bipush 13, 2) := by decide +kernel
theorem dX7_chance_172 : decode cX7_chance 172 = .ok (.iconst 4, 1) := by decide +kernel
theorem dX7_chance_173 : decode cX7_chance 173 = .ok (.iload_n 1, 1) := by decide +kernel
theorem dX7_chance_174 : decode cX7_chance 174 = .ok (.imul, 1) := by decide +kernel
theorem dX7_chance_175 : decode cX7_chance 175 = .ok (.iadd, 1) := by decide +kernel
theorem dX7_chance_176 : decode cX7_chance 176 = .ok (.iconst 1, 1) := by decide +kernel
theorem dX7_chance_177 : decode cX7_chance 177 = .ok (.iadd, 1) := by decide +kernel
theorem dX7_chance_178 : decode cX7_chance 178 = .ok (.iaload, 1) := by decide +kernel
theorem dX7_chance_179 : decode cX7_chance 179 = .ok (.ifCond .le 8, 3) := by decide +kernel
theorem dX7_chance_182 : decode cX7_chance 182 = .ok (.iload 8, 2) := by decide +kernel
theorem dX7_chance_184 : decode cX7_chance 184 = .ok (.goto 4, 3) := by decide +kernel
theorem dX7_chance_187 : decode cX7_chance 187 = .ok (.iconst 0, 1) := by decide +kernel
theorem dX7_chance_188 : decode cX7_chance 188 = .ok (.iadd, 1) := by decide +kernel
theorem dX7_chance_189 : decode cX7_chance 189 = .ok (.istore 5, 2) := by decide +kernel
theorem dX7_chance_191 : decode cX7_chance 191 = .ok (.iinc 7 1, 3) := by decide +kernel
theorem dX7_chance_194 : decode cX7_chance 194 = .ok (.goto (-122), 3) := by decide +kernel
theorem dX7_chance_197 : decode cX7_chance 197 = .ok (.iload 5, 2) := by decide +kernel
theorem dX7_chance_199 : decode cX7_chance 199 = .ok (.istore 7, 2) := by decide +kernel
theorem dX7_chance_201 : decode cX7_chance 201 = .ok (.iload 6, 2) := by decide +kernel
theorem dX7_chance_203 : decode cX7_chance 203 = .ok (.istore 8, 2) := by decide +kernel
theorem dX7_chance_205 : decode cX7_chance 205 = .ok (.iload 8, 2) := by decide +kernel
theorem dX7_chance_207 : decode cX7_chance 207 = .ok (.ifCond .eq 21, 3) := by decide +kernel
theorem dX7_chance_210 : decode cX7_chance 210 = .ok (.iload 7, 2) := by decide +kernel
theorem dX7_chance_212 : decode cX7_chance 212 = .ok (.iload 8, 2) := by decide +kernel
theorem dX7_chance_214 : decode cX7_chance 214 = .ok (.irem, 1) := by decide +kernel
theorem dX7_chance_215 : decode cX7_chance 215 = .ok (.istore 9, 2) := by decide +kernel
theorem dX7_chance_217 : decode cX7_chance 217 = .ok (.iload 8, 2) := by decide +kernel
theorem dX7_chance_219 : decode cX7_chance 219 = .ok (.istore 7, 2) := by decide +kernel
theorem dX7_chance_221 : decode cX7_chance 221 = .ok (.iload 9, 2) := by decide +kernel
theorem dX7_chance_223 : decode cX7_chance 223 = .ok (.istore 8, 2) := by decide +kernel
theorem dX7_chance_225 : decode cX7_chance 225 = .ok (.goto (-20), 3) := by decide +kernel
theorem dX7_chance_228 : decode cX7_chance 228 = .ok (.iload 4, 2) := by decide +kernel
theorem dX7_chance_230 : decode cX7_chance 230 = .ok (.ifCond .ne 8, 3) := by decide +kernel
theorem dX7_chance_233 : decode cX7_chance 233 = .ok (.iload 5, 2) := by decide +kernel
theorem dX7_chance_235 : decode cX7_chance 235 = .ok (.goto 5, 3) := by decide +kernel
theorem dX7_chance_238 : decode cX7_chance 238 = .ok (.iload 6, 2) := by decide +kernel
theorem dX7_chance_240 : decode cX7_chance 240 = .ok (.iload 7, 2) := by decide +kernel
theorem dX7_chance_242 : decode cX7_chance 242 = .ok (.idiv, 1) := by decide +kernel
theorem dX7_chance_243 : decode cX7_chance 243 = .ok (.ireturn, 1) := by decide +kernel
theorem dX7_drawn_0 : decode cX7_drawn 0 = .ok (.aload_n 0, 1) := by decide +kernel
theorem dX7_drawn_1 : decode cX7_drawn 1 = .ok (.invokevirtual 180, 3) := by decide +kernel
theorem dX7_drawn_4 : decode cX7_drawn 4 = .ok (.ifCond .ne 6, 3) := by decide +kernel
theorem dX7_drawn_7 : decode cX7_drawn 7 = .ok (.ldc 183, 2) := by decide +kernel
theorem dX7_drawn_9 : decode cX7_drawn 9 = .ok (.ireturn, 1) := by decide +kernel
theorem dX7_drawn_10 : decode cX7_drawn 10 = .ok (.iload_n 1, 1) := by decide +kernel
theorem dX7_drawn_11 : decode cX7_drawn 11 = .ok (.iconst 0, 1) := by decide +kernel
theorem dX7_drawn_12 : decode cX7_drawn 12 = .ok (.bipush 60, 2) := by decide +kernel
theorem dX7_drawn_14 : decode cX7_drawn 14 = .ok (.invokestatic 65, 3) := by decide +kernel
theorem dX7_drawn_17 : decode cX7_drawn 17 = .ok (.ifCond .eq 22, 3) := by decide +kernel
theorem dX7_drawn_20 : decode cX7_drawn 20 = .ok (.iload_n 2, 1) := by decide +kernel
theorem dX7_drawn_21 : decode cX7_drawn 21 = .ok (.iconst 1, 1) := by decide +kernel
theorem dX7_drawn_22 : decode cX7_drawn 22 = .ok (.ldc 231, 2) := by decide +kernel
theorem dX7_drawn_24 : decode cX7_drawn 24 = .ok (.invokestatic 65, 3) := by decide +kernel
theorem dX7_drawn_27 : decode cX7_drawn 27 = .ok (.ifCond .eq 12, 3) := by decide +kernel
theorem dX7_drawn_30 : decode cX7_drawn 30 = .ok (.iload_n 3, 1) := by decide +kernel
theorem dX7_drawn_31 : decode cX7_drawn 31 = .ok (.iconst 0, 1) := by decide +kernel
theorem dX7_drawn_32 : decode cX7_drawn 32 = .ok (.iconst 1, 1) := by decide +kernel
theorem dX7_drawn_33 : decode cX7_drawn 33 = .ok (.invokestatic 65, 3) := by decide +kernel
theorem dX7_drawn_36 : decode cX7_drawn 36 = .ok (.ifCond .ne 6, 3) := by decide +kernel
theorem dX7_drawn_39 : decode cX7_drawn 39 = .ok (.ldc 73, 2) := by decide +kernel
theorem dX7_drawn_41 : decode cX7_drawn 41 = .ok (.ireturn, 1) := by decide +kernel
theorem dX7_drawn_42 : decode cX7_drawn 42 = .ok (.aload_n 0, 1) := by decide +kernel
theorem dX7_drawn_43 : decode cX7_drawn 43 = .ok (.getfield 25, 3) := by decide +kernel
theorem dX7_drawn_46 : decode cX7_drawn 46 = .ok (.iconst 0, 1) := by decide +kernel
theorem dX7_drawn_47 : decode cX7_drawn 47 = .ok (.aload_n 0, 1) := by decide +kernel
theorem dX7_drawn_48 : decode cX7_drawn 48 = .ok (.getfield 31, 3) := by decide +kernel
theorem dX7_drawn_51 : decode cX7_drawn 51 = .ok (.iconst 0, 1) := by decide +kernel
theorem dX7_drawn_52 : decode cX7_drawn 52 = .ok (.invokestatic 147, 3) := by decide +kernel
theorem dX7_drawn_55 : decode cX7_drawn 55 = .ok (.iload_n 2, 1) := by decide +kernel
theorem dX7_drawn_56 : decode cX7_drawn 56 = .ok (.i2l, 1) := by decide +kernel
theorem dX7_drawn_57 : decode cX7_drawn 57 = .ok (.lstore 4, 2) := by decide +kernel
theorem dX7_drawn_59 : decode cX7_drawn 59 = .ok (.iconst 0, 1) := by decide +kernel
theorem dX7_drawn_60 : decode cX7_drawn 60 = .ok (.istore 6, 2) := by decide +kernel
theorem dX7_drawn_62 : decode cX7_drawn 62 = .ok (.iload 6, 2) := by decide +kernel
theorem dX7_drawn_64 : decode cX7_drawn 64 = .ok (.iload_n 1, 1) := by decide +kernel
theorem dX7_drawn_65 : decode cX7_drawn 65 = .ok (.if_icmp .ge 98, 3) := by decide +kernel
theorem dX7_drawn_68 : decode cX7_drawn 68 = .ok (.lload 4, 2) := by decide +kernel
theorem dX7_drawn_70 : decode cX7_drawn 70 = .ok (.ldc2_w 232, 3) := by decide +kernel
theorem dX7_drawn_73 : decode cX7_drawn 73 = .ok (.lmul, 1) := by decide +kernel
theorem dX7_drawn_74 : decode cX7_drawn 74 = .ok (.ldc2_w 234, 3) := by decide +kernel
theorem dX7_drawn_77 : decode cX7_drawn 77 = .ok (.lrem, 1) := by decide +kernel
theorem dX7_drawn_78 : decode cX7_drawn 78 = .ok (.lstore 4, 2) := by decide +kernel
theorem dX7_drawn_80 : decode cX7_drawn 80 = .ok (.aload_n 0, 1) := by decide +kernel
theorem dX7_drawn_81 : decode cX7_drawn 81 = .ok (.getfield 31, 3) := by decide +kernel
theorem dX7_drawn_84 : decode cX7_drawn 84 = .ok (.iconst 0, 1) := by decide +kernel
theorem dX7_drawn_85 : decode cX7_drawn 85 = .ok (.lload 4, 2) := by decide +kernel
theorem dX7_drawn_87 : decode cX7_drawn 87 = .ok (.ldc2_w 236, 3) := by decide +kernel
theorem dX7_drawn_90 : decode cX7_drawn 90 = .ok (.lrem, 1) := by decide +kernel
theorem dX7_drawn_91 : decode cX7_drawn 91 = .ok (.l2i, 1) := by decide +kernel
theorem dX7_drawn_92 : decode cX7_drawn 92 = .ok (.iastore, 1) := by decide +kernel
theorem dX7_drawn_93 : decode cX7_drawn 93 = .ok (.aload_n 0, 1) := by decide +kernel
theorem dX7_drawn_94 : decode cX7_drawn 94 = .ok (.getfield 25, 3) := by decide +kernel
theorem dX7_drawn_97 : decode cX7_drawn 97 = .ok (.iconst 3, 1) := by decide +kernel
theorem dX7_drawn_98 : decode cX7_drawn 98 = .ok (.iaload, 1) := by decide +kernel
theorem dX7_drawn_99 : decode cX7_drawn 99 = .ok (.ifCond .le 50, 3) := by decide +kernel
theorem dX7_drawn_102 : decode cX7_drawn 102 = .ok (.lload 4, 2) := by decide +kernel
theorem dX7_drawn_104 : decode cX7_drawn 104 = .ok (.ldc2_w 238, 3) := by decide +kernel
theorem dX7_drawn_107 : decode cX7_drawn 107 = .ok (.lrem, 1) := by decide +kernel
theorem dX7_drawn_108 : decode cX7_drawn 108 = .ok (.lconst 0, 1) := by decide +kernel
theorem dX7_drawn_109 : decode cX7_drawn 109 = .ok (.lcmp, 1) := by decide +kernel
theorem dX7_drawn_110 : decode cX7_drawn 110 = .ok (.ifCond .ne 39, 3) := by decide +kernel
theorem dX7_drawn_113 : decode cX7_drawn 113 = .ok (.bipush 13, 2) := by decide +kernel
theorem dX7_drawn_115 : decode cX7_drawn 115 = .ok (.iconst 4, 1) := by decide +kernel
theorem dX7_drawn_116 : decode cX7_drawn 116 = .ok (.lload 4, 2) := by decide +kernel
theorem dX7_drawn_118 : decode cX7_drawn 118 = .ok (.aload_n 0, 1) := by decide +kernel
theorem dX7_drawn_119 : decode cX7_drawn 119 = .ok (.getfield 25, 3) := by decide +kernel
theorem dX7_drawn_122 : decode cX7_drawn 122 = .ok (.iconst 3, 1) := by decide +kernel
theorem dX7_drawn_123 : decode cX7_drawn 123 = .ok (.iaload, 1) := by decide +kernel
theorem dX7_drawn_124 : decode cX7_drawn 124 = .ok (.i2l, 1) := by decide +kernel
theorem dX7_drawn_125 : decode cX7_drawn 125 = .ok (.lrem, 1) := by decide +kernel
theorem dX7_drawn_126 : decode cX7_drawn 126 = .ok (.l2i, 1) := by decide +kernel
theorem dX7_drawn_127 : decode cX7_drawn 127 = .ok (.imul, 1) := by decide +kernel
theorem dX7_drawn_128 : decode cX7_drawn 128 = .ok (.iadd, 1) := by decide +kernel
theorem dX7_drawn_129 : decode cX7_drawn 129 = .ok (.iconst 3, 1) := by decide +kernel
theorem dX7_drawn_130 : decode cX7_drawn 130 = .ok (.iadd, 1) := by decide +kernel
theorem dX7_drawn_131 : decode cX7_drawn 131 = .ok (.istore 7, 2) := by decide +kernel
theorem dX7_drawn_133 : decode cX7_drawn 133 = .ok (.aload_n 0, 1) := by decide +kernel
theorem dX7_drawn_134 : decode cX7_drawn 134 = .ok (.getfield 31, 3) := by decide +kernel
theorem dX7_drawn_137 : decode cX7_drawn 137 = .ok (.iload 7, 2) := by decide +kernel
theorem dX7_drawn_139 : decode cX7_drawn 139 = .ok (.iconst 1, 1) := by decide +kernel
theorem dX7_drawn_140 : decode cX7_drawn 140 = .ok (.aload_n 0, 1) := by decide +kernel
theorem dX7_drawn_141 : decode cX7_drawn 141 = .ok (.getfield 31, 3) := by decide +kernel
theorem dX7_drawn_144 : decode cX7_drawn 144 = .ok (.iload 7, 2) := by decide +kernel
theorem dX7_drawn_146 : decode cX7_drawn 146 = .ok (.iaload, 1) := by decide +kernel
theorem dX7_drawn_147 : decode cX7_drawn 147 = .ok (.isub, 1) := by decide +kernel
theorem dX7_drawn_148 : decode cX7_drawn 148 = .ok (.iastore, 1) := by decide +kernel
theorem dX7_drawn_149 : decode cX7_drawn 149 = .ok (.aload_n 0, 1) := by decide +kernel
theorem dX7_drawn_150 : decode cX7_drawn 150 = .ok (.aload_n 0, 1) := by decide +kernel
theorem dX7_drawn_151 : decode cX7_drawn 151 = .ok (.getfield 31, 3) := by decide +kernel
theorem dX7_drawn_154 : decode cX7_drawn 154 = .ok (.invokevirtual 187, 3) := by decide +kernel
theorem dX7_drawn_157 : decode cX7_drawn 157 = .ok (.iinc 6 1, 3) := by decide +kernel
theorem dX7_drawn_160 : decode cX7_drawn 160 = .ok (.goto (-98), 3) := by decide +kernel
theorem dX7_drawn_163 : decode cX7_drawn 163 = .ok (.iconst 0, 1) := by decide +kernel
theorem dX7_drawn_164 : decode cX7_drawn 164 = .ok (.istore 6, 2) := by decide +kernel
theorem dX7_drawn_166 : decode cX7_drawn 166 = .ok (.iconst 0, 1) := by decide +kernel
theorem dX7_drawn_167 : decode cX7_drawn 167 = .ok (.istore 7, 2) := by decide +kernel
theorem dX7_drawn_169 : decode cX7_drawn 169 = .ok (.iload 7, 2) := by decide +kernel
theorem dX7_drawn_171 : decode cX7_drawn 171 = .ok (.aload_n 0, 1) := by decide +kernel
theorem dX7_drawn_172 : decode cX7_drawn 172 = .ok (.getfield 25, 3) := by decide +kernel
theorem dX7_drawn_175 : decode cX7_drawn 175 = .ok (.iconst 2, 1) := by decide +kernel
theorem dX7_drawn_176 : decode cX7_drawn 176 = .ok (.iaload, 1) := by decide +kernel
theorem dX7_drawn_177 : decode cX7_drawn 177 = .ok (.if_icmp .ge 31, 3) := by decide +kernel
theorem dX7_drawn_180 : decode cX7_drawn 180 = .ok (.iload 6, 2) := by decide +kernel
theorem dX7_drawn_182 : decode cX7_drawn 182 = .ok (.iload_n 3, 1) := by decide +kernel
theorem dX7_drawn_183 : decode cX7_drawn 183 = .ok (.ifCond .ne 15, 3) := by decide +kernel
theorem dX7_drawn_186 : decode cX7_drawn 186 = .ok (.aload_n 0, 1) := by decide +kernel
theorem dX7_drawn_187 : decode cX7_drawn 187 = .ok (.getfield 31, 3) := by decide +kernel
theorem dX7_drawn_190 : decode cX7_drawn 190 = .ok (.iconst 5, 1) := by decide +kernel
theorem dX7_drawn_191 : decode cX7_drawn 191 = .ok (.iload 7, 2) := by decide +kernel
theorem dX7_drawn_193 : decode cX7_drawn 193 = .ok (.iadd, 1) := by decide +kernel
theorem dX7_drawn_194 : decode cX7_drawn 194 = .ok (.iaload, 1) := by decide +kernel
theorem dX7_drawn_195 : decode cX7_drawn 195 = .ok (.goto 4, 3) := by decide +kernel
theorem dX7_drawn_198 : decode cX7_drawn 198 = .ok (.iconst 0, 1) := by decide +kernel
theorem dX7_drawn_199 : decode cX7_drawn 199 = .ok (.iadd, 1) := by decide +kernel
theorem dX7_drawn_200 : decode cX7_drawn 200 = .ok (.istore 6, 2) := by decide +kernel
theorem dX7_drawn_202 : decode cX7_drawn 202 = .ok (.iinc 7 1, 3) := by decide +kernel
theorem dX7_drawn_205 : decode cX7_drawn 205 = .ok (.goto (-36), 3) := by decide +kernel
theorem dX7_drawn_208 : decode cX7_drawn 208 = .ok (.iconst 0, 1) := by decide +kernel
theorem dX7_drawn_209 : decode cX7_drawn 209 = .ok (.istore 7, 2) := by decide +kernel
theorem dX7_drawn_211 : decode cX7_drawn 211 = .ok (.iload 7, 2) := by decide +kernel
theorem dX7_drawn_213 : decode cX7_drawn 213 = .ok (.aload_n 0, 1) := by decide +kernel
theorem dX7_drawn_214 : decode cX7_drawn 214 = .ok (.getfield 25, 3) := by decide +kernel
theorem dX7_drawn_217 : decode cX7_drawn 217 = .ok (.iconst 3, 1) := by decide +kernel
theorem dX7_drawn_218 : decode cX7_drawn 218 = .ok (.iaload, 1) := by decide +kernel
theorem dX7_drawn_219 : decode cX7_drawn 219 = .ok (.if_icmp .ge 37, 3) := by decide +kernel
theorem dX7_drawn_222 : decode cX7_drawn 222 = .ok (.iload 6, 2) := by decide +kernel
theorem dX7_drawn_224 : decode cX7_drawn 224 = .ok (.iload_n 3, 1) := by decide +kernel
theorem dX7_drawn_225 : decode cX7_drawn 225 = .ok (.iconst 1, 1) := by decide +kernel
theorem dX7_drawn_226 : decode cX7_drawn 226 = .ok (.if_icmp .ne 20, 3) := by decide +kernel
theorem dX7_drawn_229 : decode cX7_drawn 229 = .ok (.aload_n 0, 1) := by decide +kernel
theorem dX7_drawn_230 : decode cX7_drawn 230 = .ok (.getfield 31, 3) := by decide +kernel
theorem dX7_drawn_233 : decode cX7_drawn 233 = .ok (.bipush 13, 2) := by decide +kernel
theorem dX7_drawn_235 : decode cX7_drawn 235 = .ok (.iconst 4, 1) := by decide +kernel
theorem dX7_drawn_236 : decode cX7_drawn 236 = .ok (.iload 7, 2) := by decide +kernel
theorem dX7_drawn_238 : decode cX7_drawn 238 = .ok (.imul, 1) := by decide +kernel
theorem dX7_drawn_239 : decode cX7_drawn 239 = .ok (.iadd, 1) := by decide +kernel
theorem dX7_drawn_240 : decode cX7_drawn 240 = .ok (.iconst 1, 1) := by decide +kernel
theorem dX7_drawn_241 : decode cX7_drawn 241 = .ok (.iadd, 1) := by decide +kernel
theorem dX7_drawn_242 : decode cX7_drawn 242 = .ok (.iaload, 1) := by decide +kernel
theorem dX7_drawn_243 : decode cX7_drawn 243 = .ok (.goto 4, 3) := by decide +kernel
theorem dX7_drawn_246 : decode cX7_drawn 246 = .ok (.iconst 0, 1) := by decide +kernel
theorem dX7_drawn_247 : decode cX7_drawn 247 = .ok (.iadd, 1) := by decide +kernel
theorem dX7_drawn_248 : decode cX7_drawn 248 = .ok (.istore 6, 2) := by decide +kernel
theorem dX7_drawn_250 : decode cX7_drawn 250 = .ok (.iinc 7 1, 3) := by decide +kernel
theorem dX7_drawn_253 : decode cX7_drawn 253 = .ok (.goto (-42), 3) := by decide +kernel
theorem dX7_drawn_256 : decode cX7_drawn 256 = .ok (.iload 6, 2) := by decide +kernel
theorem dX7_drawn_258 : decode cX7_drawn 258 = .ok (.ireturn, 1) := by decide +kernel
theorem dX7_image_0 : decode cX7_image 0 = .ok (.iload_n 1, 1) := by decide +kernel
theorem dX7_image_1 : decode cX7_image 1 = .ok (.iconst 0, 1) := by decide +kernel
theorem dX7_image_2 : decode cX7_image 2 = .ok (.iconst 1, 1) := by decide +kernel
theorem dX7_image_3 : decode cX7_image 3 = .ok (.invokestatic 65, 3) := by decide +kernel
theorem dX7_image_6 : decode cX7_image 6 = .ok (.ifCond .ne 6, 3) := by decide +kernel
theorem dX7_image_9 : decode cX7_image 9 = .ok (.ldc 73, 2) := by decide +kernel
theorem dX7_image_11 : decode cX7_image 11 = .ok (.ireturn, 1) := by decide +kernel
theorem dX7_image_12 : decode cX7_image 12 = .ok (.aload_n 0, 1) := by decide +kernel
theorem dX7_image_13 : decode cX7_image 13 = .ok (.invokevirtual 180, 3) := by decide +kernel
theorem dX7_image_16 : decode cX7_image 16 = .ok (.ifCond .ne 6, 3) := by decide +kernel
theorem dX7_image_19 : decode cX7_image 19 = .ok (.ldc 183, 2) := by decide +kernel
theorem dX7_image_21 : decode cX7_image 21 = .ok (.ireturn, 1) := by decide +kernel
theorem dX7_image_22 : decode cX7_image 22 = .ok (.aload_n 0, 1) := by decide +kernel
theorem dX7_image_23 : decode cX7_image 23 = .ok (.getfield 25, 3) := by decide +kernel
theorem dX7_image_26 : decode cX7_image 26 = .ok (.iconst 0, 1) := by decide +kernel
theorem dX7_image_27 : decode cX7_image 27 = .ok (.aload_n 0, 1) := by decide +kernel
theorem dX7_image_28 : decode cX7_image 28 = .ok (.getfield 37, 3) := by decide +kernel
theorem dX7_image_31 : decode cX7_image 31 = .ok (.bipush 41, 2) := by decide +kernel
theorem dX7_image_33 : decode cX7_image 33 = .ok (.iload_n 1, 1) := by decide +kernel
theorem dX7_image_34 : decode cX7_image 34 = .ok (.imul, 1) := by decide +kernel
theorem dX7_image_35 : decode cX7_image 35 = .ok (.invokestatic 147, 3) := by decide +kernel
theorem dX7_image_38 : decode cX7_image 38 = .ok (.aload_n 0, 1) := by decide +kernel
theorem dX7_image_39 : decode cX7_image 39 = .ok (.getfield 40, 3) := by decide +kernel
theorem dX7_image_42 : decode cX7_image 42 = .ok (.iload_n 1, 1) := by decide +kernel
theorem dX7_image_43 : decode cX7_image 43 = .ok (.iconst 1, 1) := by decide +kernel
theorem dX7_image_44 : decode cX7_image 44 = .ok (.bastore, 1) := by decide +kernel
theorem dX7_image_45 : decode cX7_image 45 = .ok (.iconst 1, 1) := by decide +kernel
theorem dX7_image_46 : decode cX7_image 46 = .ok (.ireturn, 1) := by decide +kernel
theorem dX7_restore_0 : decode cX7_restore 0 = .ok (.iload_n 1, 1) := by decide +kernel
theorem dX7_restore_1 : decode cX7_restore 1 = .ok (.iconst 0, 1) := by decide +kernel
theorem dX7_restore_2 : decode cX7_restore 2 = .ok (.iconst 1, 1) := by decide +kernel
theorem dX7_restore_3 : decode cX7_restore 3 = .ok (.invokestatic 65, 3) := by decide +kernel
theorem dX7_restore_6 : decode cX7_restore 6 = .ok (.ifCond .ne 6, 3) := by decide +kernel
theorem dX7_restore_9 : decode cX7_restore 9 = .ok (.ldc 73, 2) := by decide +kernel
theorem dX7_restore_11 : decode cX7_restore 11 = .ok (.ireturn, 1) := by decide +kernel
theorem dX7_restore_12 : decode cX7_restore 12 = .ok (.aload_n 0, 1) := by decide +kernel
theorem dX7_restore_13 : decode cX7_restore 13 = .ok (.getfield 40, 3) := by decide +kernel
theorem dX7_restore_16 : decode cX7_restore 16 = .ok (.iload_n 1, 1) := by decide +kernel
theorem dX7_restore_17 : decode cX7_restore 17 = .ok (.baload, 1) := by decide +kernel
theorem dX7_restore_18 : decode cX7_restore 18 = .ok (.ifCond .ne 6, 3) := by decide +kernel
theorem dX7_restore_21 : decode cX7_restore 21 = .ok (.ldc 183, 2) := by decide +kernel
theorem dX7_restore_23 : decode cX7_restore 23 = .ok (.ireturn, 1) := by decide +kernel
theorem dX7_restore_24 : decode cX7_restore 24 = .ok (.aload_n 0, 1) := by decide +kernel
theorem dX7_restore_25 : decode cX7_restore 25 = .ok (.getfield 37, 3) := by decide +kernel
theorem dX7_restore_28 : decode cX7_restore 28 = .ok (.bipush 41, 2) := by decide +kernel
theorem dX7_restore_30 : decode cX7_restore 30 = .ok (.iload_n 1, 1) := by decide +kernel
theorem dX7_restore_31 : decode cX7_restore 31 = .ok (.imul, 1) := by decide +kernel
theorem dX7_restore_32 : decode cX7_restore 32 = .ok (.aload_n 0, 1) := by decide +kernel
theorem dX7_restore_33 : decode cX7_restore 33 = .ok (.getfield 25, 3) := by decide +kernel
theorem dX7_restore_36 : decode cX7_restore 36 = .ok (.iconst 0, 1) := by decide +kernel
theorem dX7_restore_37 : decode cX7_restore 37 = .ok (.invokestatic 147, 3) := by decide +kernel
theorem dX7_restore_40 : decode cX7_restore 40 = .ok (.aload_n 0, 1) := by decide +kernel
theorem dX7_restore_41 : decode cX7_restore 41 = .ok (.iconst 0, 1) := by decide +kernel
theorem dX7_restore_42 : decode cX7_restore 42 = .ok (.putfield 151, 3) := by decide +kernel
theorem dX7_restore_45 : decode cX7_restore 45 = .ok (.iconst 1, 1) := by decide +kernel
theorem dX7_restore_46 : decode cX7_restore 46 = .ok (.ireturn, 1) := by decide +kernel
theorem dX7_kindIn_0 : decode cX7_kindIn 0 = .ok (.aload_n 0, 1) := by decide +kernel
theorem dX7_kindIn_1 : decode cX7_kindIn 1 = .ok (.getfield 25, 3) := by decide +kernel
theorem dX7_kindIn_4 : decode cX7_kindIn 4 = .ok (.bipush 13, 2) := by decide +kernel
theorem dX7_kindIn_6 : decode cX7_kindIn 6 = .ok (.iconst 4, 1) := by decide +kernel
theorem dX7_kindIn_7 : decode cX7_kindIn 7 = .ok (.iload_n 1, 1) := by decide +kernel
theorem dX7_kindIn_8 : decode cX7_kindIn 8 = .ok (.imul, 1) := by decide +kernel
theorem dX7_kindIn_9 : decode cX7_kindIn 9 = .ok (.iadd, 1) := by decide +kernel
theorem dX7_kindIn_10 : decode cX7_kindIn 10 = .ok (.iaload, 1) := by decide +kernel
theorem dX7_kindIn_11 : decode cX7_kindIn 11 = .ok (.ireturn, 1) := by decide +kernel
theorem dX7_kind_0 : decode cX7_kind 0 = .ok (.aload_n 0, 1) := by decide +kernel
theorem dX7_kind_1 : decode cX7_kind 1 = .ok (.iload_n 1, 1) := by decide +kernel
theorem dX7_kind_2 : decode cX7_kind 2 = .ok (.invokevirtual 195, 3) := by decide +kernel
theorem dX7_kind_5 : decode cX7_kind 5 = .ok (.ifCond .eq 11, 3) := by decide +kernel
theorem dX7_kind_8 : decode cX7_kind 8 = .ok (.aload_n 0, 1) := by decide +kernel
theorem dX7_kind_9 : decode cX7_kind 9 = .ok (.iload_n 1, 1) := by decide +kernel
theorem dX7_kind_10 : decode cX7_kind 10 = .ok (.invokevirtual 240, 3) := by decide +kernel
theorem dX7_kind_13 : decode cX7_kind 13 = .ok (.goto 5, 3) := by decide +kernel
theorem dX7_kind_16 : decode cX7_kind 16 = .ok (.ldc 73, 2) := by decide +kernel
theorem dX7_kind_18 : decode cX7_kind 18 = .ok (.ireturn, 1) := by decide +kernel
theorem dX7_as_0 : decode cX7_as 0 = .ok (.aload_n 0, 1) := by decide +kernel
theorem dX7_as_1 : decode cX7_as 1 = .ok (.iload_n 1, 1) := by decide +kernel
theorem dX7_as_2 : decode cX7_as 2 = .ok (.invokevirtual 195, 3) := by decide +kernel
theorem dX7_as_5 : decode cX7_as 5 = .ok (.ifCond .eq 12, 3) := by decide +kernel
theorem dX7_as_8 : decode cX7_as 8 = .ok (.iload_n 2, 1) := by decide +kernel
theorem dX7_as_9 : decode cX7_as 9 = .ok (.iconst 0, 1) := by decide +kernel
theorem dX7_as_10 : decode cX7_as 10 = .ok (.iconst 5, 1) := by decide +kernel
theorem dX7_as_11 : decode cX7_as 11 = .ok (.invokestatic 65, 3) := by decide +kernel
theorem dX7_as_14 : decode cX7_as 14 = .ok (.ifCond .ne 6, 3) := by decide +kernel
theorem dX7_as_17 : decode cX7_as 17 = .ok (.ldc 73, 2) := by decide +kernel
theorem dX7_as_19 : decode cX7_as 19 = .ok (.ireturn, 1) := by decide +kernel
theorem dX7_as_20 : decode cX7_as 20 = .ok (.aload_n 0, 1) := by decide +kernel
theorem dX7_as_21 : decode cX7_as 21 = .ok (.iload_n 1, 1) := by decide +kernel
theorem dX7_as_22 : decode cX7_as 22 = .ok (.invokevirtual 240, 3) := by decide +kernel
theorem dX7_as_25 : decode cX7_as 25 = .ok (.istore_n 3, 1) := by decide +kernel
theorem dX7_as_26 : decode cX7_as 26 = .ok (.iload_n 2, 1) := by decide +kernel
theorem dX7_as_27 : decode cX7_as 27 = .ok (.ifCond .eq 28, 3) := by decide +kernel
theorem dX7_as_30 : decode cX7_as 30 = .ok (.iload_n 2, 1) := by decide +kernel
theorem dX7_as_31 : decode cX7_as 31 = .ok (.iload_n 3, 1) := by decide +kernel
theorem dX7_as_32 : decode cX7_as 32 = .ok (.if_icmp .eq 23, 3) := by decide +kernel
theorem dX7_as_35 : decode cX7_as 35 = .ok (.iload_n 2, 1) := by decide +kernel
theorem dX7_as_36 : decode cX7_as 36 = .ok (.iconst 1, 1) := by decide +kernel
theorem dX7_as_37 : decode cX7_as 37 = .ok (.if_icmp .ne 8, 3) := by decide +kernel
theorem dX7_as_40 : decode cX7_as 40 = .ok (.iload_n 3, 1) := by decide +kernel
theorem dX7_as_41 : decode cX7_as 41 = .ok (.iconst 4, 1) := by decide +kernel
theorem dX7_as_42 : decode cX7_as 42 = .ok (.if_icmp .lt 13, 3) := by decide +kernel
theorem dX7_as_45 : decode cX7_as 45 = .ok (.iload_n 2, 1) := by decide +kernel
theorem dX7_as_46 : decode cX7_as 46 = .ok (.iconst 4, 1) := by decide +kernel
theorem dX7_as_47 : decode cX7_as 47 = .ok (.if_icmp .ne 12, 3) := by decide +kernel
theorem dX7_as_50 : decode cX7_as 50 = .ok (.iload_n 3, 1) := by decide +kernel
theorem dX7_as_51 : decode cX7_as 51 = .ok (.iconst 5, 1) := by decide +kernel
theorem dX7_as_52 : decode cX7_as 52 = .ok (.if_icmp .ne 7, 3) := by decide +kernel
theorem dX7_as_55 : decode cX7_as 55 = .ok (.iconst 1, 1) := by decide +kernel
theorem dX7_as_56 : decode cX7_as 56 = .ok (.goto 4, 3) := by decide +kernel
theorem dX7_as_59 : decode cX7_as 59 = .ok (.iconst 0, 1) := by decide +kernel
theorem dX7_as_60 : decode cX7_as 60 = .ok (.istore 4, 2) := by decide +kernel
theorem dX7_as_62 : decode cX7_as 62 = .ok (.iload 4, 2) := by decide +kernel
theorem dX7_as_64 : decode cX7_as 64 = .ok (.ifCond .eq 11, 3) := by decide +kernel
theorem dX7_as_67 : decode cX7_as 67 = .ok (.aload_n 0, 1) := by decide +kernel
theorem dX7_as_68 : decode cX7_as 68 = .ok (.iload_n 1, 1) := by decide +kernel
theorem dX7_as_69 : decode cX7_as 69 = .ok (.invokevirtual 78, 3) := by decide +kernel
theorem dX7_as_72 : decode cX7_as 72 = .ok (.goto 8, 3) := by decide +kernel
theorem dX7_as_75 : decode cX7_as 75 = .ok (.aload_n 0, 1) := by decide +kernel
theorem dX7_as_76 : decode cX7_as 76 = .ok (.iconst 3, 1) := by decide +kernel
theorem dX7_as_77 : decode cX7_as 77 = .ok (.invokevirtual 74, 3) := by decide +kernel
theorem dX7_as_80 : decode cX7_as 80 = .ok (.ireturn, 1) := by decide +kernel
theorem dX7_begins_0 : decode cX7_begins 0 = .ok (.aload_n 0, 1) := by decide +kernel
theorem dX7_begins_1 : decode cX7_begins 1 = .ok (.getfield 243, 3) := by decide +kernel
theorem dX7_begins_4 : decode cX7_begins 4 = .ok (.bipush 16, 2) := by decide +kernel
theorem dX7_begins_6 : decode cX7_begins 6 = .ok (.if_icmp .ge 23, 3) := by decide +kernel
theorem dX7_begins_9 : decode cX7_begins 9 = .ok (.aload_n 0, 1) := by decide +kernel
theorem dX7_begins_10 : decode cX7_begins 10 = .ok (.getfield 56, 3) := by decide +kernel
theorem dX7_begins_13 : decode cX7_begins 13 = .ok (.aload_n 0, 1) := by decide +kernel
theorem dX7_begins_14 : decode cX7_begins 14 = .ok (.getfield 243, 3) := by decide +kernel
theorem dX7_begins_17 : decode cX7_begins 17 = .ok (.iload_n 1, 1) := by decide +kernel
theorem dX7_begins_18 : decode cX7_begins 18 = .ok (.iastore, 1) := by decide +kernel
theorem dX7_begins_19 : decode cX7_begins 19 = .ok (.aload_n 0, 1) := by decide +kernel
theorem dX7_begins_20 : decode cX7_begins 20 = .ok (.dup, 1) := by decide +kernel
theorem dX7_begins_21 : decode cX7_begins 21 = .ok (.getfield 243, 3) := by decide +kernel
theorem dX7_begins_24 : decode cX7_begins 24 = .ok (.iconst 1, 1) := by decide +kernel
theorem dX7_begins_25 : decode cX7_begins 25 = .ok (.iadd, 1) := by decide +kernel
theorem dX7_begins_26 : decode cX7_begins 26 = .ok (.putfield 243, 3) := by decide +kernel
theorem dX7_begins_29 : decode cX7_begins 29 = .ok (.return_, 1) := by decide +kernel
theorem dX7_leatherMark_0 : decode cX7_leatherMark 0 = .ok (.aload_n 0, 1) := by decide +kernel
theorem dX7_leatherMark_1 : decode cX7_leatherMark 1 = .ok (.iload_n 1, 1) := by decide +kernel
theorem dX7_leatherMark_2 : decode cX7_leatherMark 2 = .ok (.invokevirtual 240, 3) := by decide +kernel
theorem dX7_leatherMark_5 : decode cX7_leatherMark 5 = .ok (.istore_n 2, 1) := by decide +kernel
theorem dX7_leatherMark_6 : decode cX7_leatherMark 6 = .ok (.iload_n 2, 1) := by decide +kernel
theorem dX7_leatherMark_7 : decode cX7_leatherMark 7 = .ok (.iconst 1, 1) := by decide +kernel
theorem dX7_leatherMark_8 : decode cX7_leatherMark 8 = .ok (.if_icmp .eq 19, 3) := by decide +kernel
theorem dX7_leatherMark_11 : decode cX7_leatherMark 11 = .ok (.aload_n 0, 1) := by decide +kernel
theorem dX7_leatherMark_12 : decode cX7_leatherMark 12 = .ok (.iload_n 2, 1) := by decide +kernel
theorem dX7_leatherMark_13 : decode cX7_leatherMark 13 = .ok (.iconst 2, 1) := by decide +kernel
theorem dX7_leatherMark_14 : decode cX7_leatherMark 14 = .ok (.if_icmp .ne 8, 3) := by decide +kernel
theorem dX7_leatherMark_17 : decode cX7_leatherMark 17 = .ok (.bipush 24, 2) := by decide +kernel
theorem dX7_leatherMark_19 : decode cX7_leatherMark 19 = .ok (.goto 5, 3) := by decide +kernel
theorem dX7_leatherMark_22 : decode cX7_leatherMark 22 = .ok (.bipush 22, 2) := by decide +kernel
theorem dX7_leatherMark_24 : decode cX7_leatherMark 24 = .ok (.invokevirtual 246, 3) := by decide +kernel
theorem dX7_leatherMark_27 : decode cX7_leatherMark 27 = .ok (.aload_n 0, 1) := by decide +kernel
theorem dX7_leatherMark_28 : decode cX7_leatherMark 28 = .ok (.bipush 21, 2) := by decide +kernel
theorem dX7_leatherMark_30 : decode cX7_leatherMark 30 = .ok (.invokevirtual 246, 3) := by decide +kernel
theorem dX7_leatherMark_33 : decode cX7_leatherMark 33 = .ok (.aload_n 0, 1) := by decide +kernel
theorem dX7_leatherMark_34 : decode cX7_leatherMark 34 = .ok (.bipush 20, 2) := by decide +kernel
theorem dX7_leatherMark_36 : decode cX7_leatherMark 36 = .ok (.invokevirtual 246, 3) := by decide +kernel
theorem dX7_leatherMark_39 : decode cX7_leatherMark 39 = .ok (.iload_n 1, 1) := by decide +kernel
theorem dX7_leatherMark_40 : decode cX7_leatherMark 40 = .ok (.aload_n 0, 1) := by decide +kernel
theorem dX7_leatherMark_41 : decode cX7_leatherMark 41 = .ok (.getfield 25, 3) := by decide +kernel
theorem dX7_leatherMark_44 : decode cX7_leatherMark 44 = .ok (.bipush 13, 2) := by decide +kernel
theorem dX7_leatherMark_46 : decode cX7_leatherMark 46 = .ok (.iconst 4, 1) := by decide +kernel
theorem dX7_leatherMark_47 : decode cX7_leatherMark 47 = .ok (.iload_n 1, 1) := by decide +kernel
theorem dX7_leatherMark_48 : decode cX7_leatherMark 48 = .ok (.imul, 1) := by decide +kernel
theorem dX7_leatherMark_49 : decode cX7_leatherMark 49 = .ok (.iadd, 1) := by decide +kernel
theorem dX7_leatherMark_50 : decode cX7_leatherMark 50 = .ok (.iconst 2, 1) := by decide +kernel
theorem dX7_leatherMark_51 : decode cX7_leatherMark 51 = .ok (.iadd, 1) := by decide +kernel
theorem dX7_leatherMark_52 : decode cX7_leatherMark 52 = .ok (.iaload, 1) := by decide +kernel
theorem dX7_leatherMark_53 : decode cX7_leatherMark 53 = .ok (.iadd, 1) := by decide +kernel
theorem dX7_leatherMark_54 : decode cX7_leatherMark 54 = .ok (.istore_n 3, 1) := by decide +kernel
theorem dX7_leatherMark_55 : decode cX7_leatherMark 55 = .ok (.iload_n 2, 1) := by decide +kernel
theorem dX7_leatherMark_56 : decode cX7_leatherMark 56 = .ok (.iconst 2, 1) := by decide +kernel
theorem dX7_leatherMark_57 : decode cX7_leatherMark 57 = .ok (.if_icmp .ne 9, 3) := by decide +kernel
theorem dX7_leatherMark_60 : decode cX7_leatherMark 60 = .ok (.iconst 2, 1) := by decide +kernel
theorem dX7_leatherMark_61 : decode cX7_leatherMark 61 = .ok (.iload_n 3, 1) := by decide +kernel
theorem dX7_leatherMark_62 : decode cX7_leatherMark 62 = .ok (.imul, 1) := by decide +kernel
theorem dX7_leatherMark_63 : decode cX7_leatherMark 63 = .ok (.goto 17, 3) := by decide +kernel
theorem dX7_leatherMark_66 : decode cX7_leatherMark 66 = .ok (.iload_n 2, 1) := by decide +kernel
theorem dX7_leatherMark_67 : decode cX7_leatherMark 67 = .ok (.iconst 3, 1) := by decide +kernel
theorem dX7_leatherMark_68 : decode cX7_leatherMark 68 = .ok (.if_icmp .ne 11, 3) := by decide +kernel
theorem dX7_leatherMark_71 : decode cX7_leatherMark 71 = .ok (.iload_n 3, 1) := by decide +kernel
theorem dX7_leatherMark_72 : decode cX7_leatherMark 72 = .ok (.sipush 1000, 3) := by decide +kernel
theorem dX7_leatherMark_75 : decode cX7_leatherMark 75 = .ok (.isub, 1) := by decide +kernel
theorem dX7_leatherMark_76 : decode cX7_leatherMark 76 = .ok (.goto 4, 3) := by decide +kernel
theorem dX7_leatherMark_79 : decode cX7_leatherMark 79 = .ok (.iload_n 3, 1) := by decide +kernel
theorem dX7_leatherMark_80 : decode cX7_leatherMark 80 = .ok (.ireturn, 1) := by decide +kernel
theorem dX7_tinSize_0 : decode cX7_tinSize 0 = .ok (.aload_n 0, 1) := by decide +kernel
theorem dX7_tinSize_1 : decode cX7_tinSize 1 = .ok (.iload_n 1, 1) := by decide +kernel
theorem dX7_tinSize_2 : decode cX7_tinSize 2 = .ok (.invokevirtual 240, 3) := by decide +kernel
theorem dX7_tinSize_5 : decode cX7_tinSize 5 = .ok (.iconst 5, 1) := by decide +kernel
theorem dX7_tinSize_6 : decode cX7_tinSize 6 = .ok (.if_icmp .ne 7, 3) := by decide +kernel
theorem dX7_tinSize_9 : decode cX7_tinSize 9 = .ok (.iconst 1, 1) := by decide +kernel
theorem dX7_tinSize_10 : decode cX7_tinSize 10 = .ok (.goto 4, 3) := by decide +kernel
theorem dX7_tinSize_13 : decode cX7_tinSize 13 = .ok (.iconst 0, 1) := by decide +kernel
theorem dX7_tinSize_14 : decode cX7_tinSize 14 = .ok (.istore_n 2, 1) := by decide +kernel
theorem dX7_tinSize_15 : decode cX7_tinSize 15 = .ok (.iload_n 2, 1) := by decide +kernel
theorem dX7_tinSize_16 : decode cX7_tinSize 16 = .ok (.ifCond .eq 9, 3) := by decide +kernel
theorem dX7_tinSize_19 : decode cX7_tinSize 19 = .ok (.aload_n 0, 1) := by decide +kernel
theorem dX7_tinSize_20 : decode cX7_tinSize 20 = .ok (.bipush 14, 2) := by decide +kernel
theorem dX7_tinSize_22 : decode cX7_tinSize 22 = .ok (.invokevirtual 246, 3) := by decide +kernel
theorem dX7_tinSize_25 : decode cX7_tinSize 25 = .ok (.aload_n 0, 1) := by decide +kernel
theorem dX7_tinSize_26 : decode cX7_tinSize 26 = .ok (.bipush 13, 2) := by decide +kernel
theorem dX7_tinSize_28 : decode cX7_tinSize 28 = .ok (.invokevirtual 246, 3) := by decide +kernel
theorem dX7_tinSize_31 : decode cX7_tinSize 31 = .ok (.aload_n 0, 1) := by decide +kernel
theorem dX7_tinSize_32 : decode cX7_tinSize 32 = .ok (.bipush 10, 2) := by decide +kernel
theorem dX7_tinSize_34 : decode cX7_tinSize 34 = .ok (.invokevirtual 246, 3) := by decide +kernel
theorem dX7_tinSize_37 : decode cX7_tinSize 37 = .ok (.aload_n 0, 1) := by decide +kernel
theorem dX7_tinSize_38 : decode cX7_tinSize 38 = .ok (.getfield 25, 3) := by decide +kernel
theorem dX7_tinSize_41 : decode cX7_tinSize 41 = .ok (.bipush 13, 2) := by decide +kernel
theorem dX7_tinSize_43 : decode cX7_tinSize 43 = .ok (.iconst 4, 1) := by decide +kernel
theorem dX7_tinSize_44 : decode cX7_tinSize 44 = .ok (.iload_n 1, 1) := by decide +kernel
theorem dX7_tinSize_45 : decode cX7_tinSize 45 = .ok (.imul, 1) := by decide +kernel
theorem dX7_tinSize_46 : decode cX7_tinSize 46 = .ok (.iadd, 1) := by decide +kernel
theorem dX7_tinSize_47 : decode cX7_tinSize 47 = .ok (.iconst 1, 1) := by decide +kernel
theorem dX7_tinSize_48 : decode cX7_tinSize 48 = .ok (.iadd, 1) := by decide +kernel
theorem dX7_tinSize_49 : decode cX7_tinSize 49 = .ok (.iaload, 1) := by decide +kernel
theorem dX7_tinSize_50 : decode cX7_tinSize 50 = .ok (.bipush 100, 2) := by decide +kernel
theorem dX7_tinSize_52 : decode cX7_tinSize 52 = .ok (.isub, 1) := by decide +kernel
theorem dX7_tinSize_53 : decode cX7_tinSize 53 = .ok (.istore_n 3, 1) := by decide +kernel
theorem dX7_tinSize_54 : decode cX7_tinSize 54 = .ok (.iload_n 2, 1) := by decide +kernel
theorem dX7_tinSize_55 : decode cX7_tinSize 55 = .ok (.ifCond .eq 9, 3) := by decide +kernel
theorem dX7_tinSize_58 : decode cX7_tinSize 58 = .ok (.iconst 2, 1) := by decide +kernel
theorem dX7_tinSize_59 : decode cX7_tinSize 59 = .ok (.iload_n 3, 1) := by decide +kernel
theorem dX7_tinSize_60 : decode cX7_tinSize 60 = .ok (.imul, 1) := by decide +kernel
theorem dX7_tinSize_61 : decode cX7_tinSize 61 = .ok (.goto 4, 3) := by decide +kernel
theorem dX7_tinSize_64 : decode cX7_tinSize 64 = .ok (.iload_n 3, 1) := by decide +kernel
theorem dX7_tinSize_65 : decode cX7_tinSize 65 = .ok (.ireturn, 1) := by decide +kernel
theorem dX7_leatherSize_0 : decode cX7_leatherSize 0 = .ok (.aload_n 0, 1) := by decide +kernel
theorem dX7_leatherSize_1 : decode cX7_leatherSize 1 = .ok (.iload_n 1, 1) := by decide +kernel
theorem dX7_leatherSize_2 : decode cX7_leatherSize 2 = .ok (.invokevirtual 240, 3) := by decide +kernel
theorem dX7_leatherSize_5 : decode cX7_leatherSize 5 = .ok (.iconst 2, 1) := by decide +kernel
theorem dX7_leatherSize_6 : decode cX7_leatherSize 6 = .ok (.if_icmp .ne 7, 3) := by decide +kernel
theorem dX7_leatherSize_9 : decode cX7_leatherSize 9 = .ok (.iconst 1, 1) := by decide +kernel
theorem dX7_leatherSize_10 : decode cX7_leatherSize 10 = .ok (.goto 4, 3) := by decide +kernel
theorem dX7_leatherSize_13 : decode cX7_leatherSize 13 = .ok (.iconst 0, 1) := by decide +kernel
theorem dX7_leatherSize_14 : decode cX7_leatherSize 14 = .ok (.istore_n 2, 1) := by decide +kernel
theorem dX7_leatherSize_15 : decode cX7_leatherSize 15 = .ok (.iload_n 2, 1) := by decide +kernel
theorem dX7_leatherSize_16 : decode cX7_leatherSize 16 = .ok (.ifCond .eq 9, 3) := by decide +kernel
theorem dX7_leatherSize_19 : decode cX7_leatherSize 19 = .ok (.aload_n 0, 1) := by decide +kernel
theorem dX7_leatherSize_20 : decode cX7_leatherSize 20 = .ok (.bipush 12, 2) := by decide +kernel
theorem dX7_leatherSize_22 : decode cX7_leatherSize 22 = .ok (.invokevirtual 246, 3) := by decide +kernel
theorem dX7_leatherSize_25 : decode cX7_leatherSize 25 = .ok (.aload_n 0, 1) := by decide +kernel
theorem dX7_leatherSize_26 : decode cX7_leatherSize 26 = .ok (.bipush 11, 2) := by decide +kernel
theorem dX7_leatherSize_28 : decode cX7_leatherSize 28 = .ok (.invokevirtual 246, 3) := by decide +kernel
theorem dX7_leatherSize_31 : decode cX7_leatherSize 31 = .ok (.aload_n 0, 1) := by decide +kernel
theorem dX7_leatherSize_32 : decode cX7_leatherSize 32 = .ok (.bipush 10, 2) := by decide +kernel
theorem dX7_leatherSize_34 : decode cX7_leatherSize 34 = .ok (.invokevirtual 246, 3) := by decide +kernel
theorem dX7_leatherSize_37 : decode cX7_leatherSize 37 = .ok (.aload_n 0, 1) := by decide +kernel
theorem dX7_leatherSize_38 : decode cX7_leatherSize 38 = .ok (.getfield 25, 3) := by decide +kernel
theorem dX7_leatherSize_41 : decode cX7_leatherSize 41 = .ok (.bipush 13, 2) := by decide +kernel
theorem dX7_leatherSize_43 : decode cX7_leatherSize 43 = .ok (.iconst 4, 1) := by decide +kernel
theorem dX7_leatherSize_44 : decode cX7_leatherSize 44 = .ok (.iload_n 1, 1) := by decide +kernel
theorem dX7_leatherSize_45 : decode cX7_leatherSize 45 = .ok (.imul, 1) := by decide +kernel
theorem dX7_leatherSize_46 : decode cX7_leatherSize 46 = .ok (.iadd, 1) := by decide +kernel
theorem dX7_leatherSize_47 : decode cX7_leatherSize 47 = .ok (.iconst 1, 1) := by decide +kernel
theorem dX7_leatherSize_48 : decode cX7_leatherSize 48 = .ok (.iadd, 1) := by decide +kernel
theorem dX7_leatherSize_49 : decode cX7_leatherSize 49 = .ok (.iaload, 1) := by decide +kernel
theorem dX7_leatherSize_50 : decode cX7_leatherSize 50 = .ok (.aload_n 0, 1) := by decide +kernel
theorem dX7_leatherSize_51 : decode cX7_leatherSize 51 = .ok (.iload_n 1, 1) := by decide +kernel
theorem dX7_leatherSize_52 : decode cX7_leatherSize 52 = .ok (.invokevirtual 249, 3) := by decide +kernel
theorem dX7_leatherSize_55 : decode cX7_leatherSize 55 = .ok (.iadd, 1) := by decide +kernel
theorem dX7_leatherSize_56 : decode cX7_leatherSize 56 = .ok (.istore_n 3, 1) := by decide +kernel
theorem dX7_leatherSize_57 : decode cX7_leatherSize 57 = .ok (.iload_n 2, 1) := by decide +kernel
theorem dX7_leatherSize_58 : decode cX7_leatherSize 58 = .ok (.ifCond .eq 8, 3) := by decide +kernel
theorem dX7_leatherSize_61 : decode cX7_leatherSize 61 = .ok (.iload_n 3, 1) := by decide +kernel
theorem dX7_leatherSize_62 : decode cX7_leatherSize 62 = .ok (.ineg, 1) := by decide +kernel
theorem dX7_leatherSize_63 : decode cX7_leatherSize 63 = .ok (.goto 4, 3) := by decide +kernel
theorem dX7_leatherSize_66 : decode cX7_leatherSize 66 = .ok (.iload_n 3, 1) := by decide +kernel
theorem dX7_leatherSize_67 : decode cX7_leatherSize 67 = .ok (.ireturn, 1) := by decide +kernel
theorem dX7_tinMark_0 : decode cX7_tinMark 0 = .ok (.aload_n 0, 1) := by decide +kernel
theorem dX7_tinMark_1 : decode cX7_tinMark 1 = .ok (.bipush 23, 2) := by decide +kernel
theorem dX7_tinMark_3 : decode cX7_tinMark 3 = .ok (.invokevirtual 246, 3) := by decide +kernel
theorem dX7_tinMark_6 : decode cX7_tinMark 6 = .ok (.aload_n 0, 1) := by decide +kernel
theorem dX7_tinMark_7 : decode cX7_tinMark 7 = .ok (.bipush 20, 2) := by decide +kernel
theorem dX7_tinMark_9 : decode cX7_tinMark 9 = .ok (.invokevirtual 246, 3) := by decide +kernel
theorem dX7_tinMark_12 : decode cX7_tinMark 12 = .ok (.iload_n 1, 1) := by decide +kernel
theorem dX7_tinMark_13 : decode cX7_tinMark 13 = .ok (.aload_n 0, 1) := by decide +kernel
theorem dX7_tinMark_14 : decode cX7_tinMark 14 = .ok (.iload_n 1, 1) := by decide +kernel
theorem dX7_tinMark_15 : decode cX7_tinMark 15 = .ok (.invokevirtual 252, 3) := by decide +kernel
theorem dX7_tinMark_18 : decode cX7_tinMark 18 = .ok (.isub, 1) := by decide +kernel
theorem dX7_tinMark_19 : decode cX7_tinMark 19 = .ok (.ireturn, 1) := by decide +kernel
theorem dX7_ask_0 : decode cX7_ask 0 = .ok (.aload_n 0, 1) := by decide +kernel
theorem dX7_ask_1 : decode cX7_ask 1 = .ok (.iload_n 1, 1) := by decide +kernel
theorem dX7_ask_2 : decode cX7_ask 2 = .ok (.invokevirtual 195, 3) := by decide +kernel
theorem dX7_ask_5 : decode cX7_ask 5 = .ok (.ifCond .eq 12, 3) := by decide +kernel
theorem dX7_ask_8 : decode cX7_ask 8 = .ok (.iload_n 2, 1) := by decide +kernel
theorem dX7_ask_9 : decode cX7_ask 9 = .ok (.iconst 0, 1) := by decide +kernel
theorem dX7_ask_10 : decode cX7_ask 10 = .ok (.iconst 1, 1) := by decide +kernel
theorem dX7_ask_11 : decode cX7_ask 11 = .ok (.invokestatic 65, 3) := by decide +kernel
theorem dX7_ask_14 : decode cX7_ask 14 = .ok (.ifCond .ne 6, 3) := by decide +kernel
theorem dX7_ask_17 : decode cX7_ask 17 = .ok (.ldc 73, 2) := by decide +kernel
theorem dX7_ask_19 : decode cX7_ask 19 = .ok (.ireturn, 1) := by decide +kernel
theorem dX7_ask_20 : decode cX7_ask 20 = .ok (.aload_n 0, 1) := by decide +kernel
theorem dX7_ask_21 : decode cX7_ask 21 = .ok (.iconst 0, 1) := by decide +kernel
theorem dX7_ask_22 : decode cX7_ask 22 = .ok (.putfield 243, 3) := by decide +kernel
theorem dX7_ask_25 : decode cX7_ask 25 = .ok (.aload_n 0, 1) := by decide +kernel
theorem dX7_ask_26 : decode cX7_ask 26 = .ok (.iload_n 1, 1) := by decide +kernel
theorem dX7_ask_27 : decode cX7_ask 27 = .ok (.invokevirtual 240, 3) := by decide +kernel
theorem dX7_ask_30 : decode cX7_ask 30 = .ok (.iconst 4, 1) := by decide +kernel
theorem dX7_ask_31 : decode cX7_ask 31 = .ok (.if_icmp .lt 7, 3) := by decide +kernel
theorem dX7_ask_34 : decode cX7_ask 34 = .ok (.iconst 1, 1) := by decide +kernel
theorem dX7_ask_35 : decode cX7_ask 35 = .ok (.goto 4, 3) := by decide +kernel
theorem dX7_ask_38 : decode cX7_ask 38 = .ok (.iconst 0, 1) := by decide +kernel
theorem dX7_ask_39 : decode cX7_ask 39 = .ok (.istore_n 3, 1) := by decide +kernel
theorem dX7_ask_40 : decode cX7_ask 40 = .ok (.iload_n 2, 1) := by decide +kernel
theorem dX7_ask_41 : decode cX7_ask 41 = .ok (.ifCond .ne 21, 3) := by decide +kernel
theorem dX7_ask_44 : decode cX7_ask 44 = .ok (.iload_n 3, 1) := by decide +kernel
theorem dX7_ask_45 : decode cX7_ask 45 = .ok (.ifCond .eq 11, 3) := by decide +kernel
theorem dX7_ask_48 : decode cX7_ask 48 = .ok (.aload_n 0, 1) := by decide +kernel
theorem dX7_ask_49 : decode cX7_ask 49 = .ok (.iload_n 1, 1) := by decide +kernel
theorem dX7_ask_50 : decode cX7_ask 50 = .ok (.invokevirtual 252, 3) := by decide +kernel
theorem dX7_ask_53 : decode cX7_ask 53 = .ok (.goto 8, 3) := by decide +kernel
theorem dX7_ask_56 : decode cX7_ask 56 = .ok (.aload_n 0, 1) := by decide +kernel
theorem dX7_ask_57 : decode cX7_ask 57 = .ok (.iload_n 1, 1) := by decide +kernel
theorem dX7_ask_58 : decode cX7_ask 58 = .ok (.invokevirtual 255, 3) := by decide +kernel
theorem dX7_ask_61 : decode cX7_ask 61 = .ok (.ireturn, 1) := by decide +kernel
theorem dX7_ask_62 : decode cX7_ask 62 = .ok (.iload_n 3, 1) := by decide +kernel
theorem dX7_ask_63 : decode cX7_ask 63 = .ok (.ifCond .eq 11, 3) := by decide +kernel
theorem dX7_ask_66 : decode cX7_ask 66 = .ok (.aload_n 0, 1) := by decide +kernel
theorem dX7_ask_67 : decode cX7_ask 67 = .ok (.iload_n 1, 1) := by decide +kernel
theorem dX7_ask_68 : decode cX7_ask 68 = .ok (.invokevirtual 258, 3) := by decide +kernel
theorem dX7_ask_71 : decode cX7_ask 71 = .ok (.goto 8, 3) := by decide +kernel
theorem dX7_ask_74 : decode cX7_ask 74 = .ok (.aload_n 0, 1) := by decide +kernel
theorem dX7_ask_75 : decode cX7_ask 75 = .ok (.iload_n 1, 1) := by decide +kernel
theorem dX7_ask_76 : decode cX7_ask 76 = .ok (.invokevirtual 249, 3) := by decide +kernel
theorem dX7_ask_79 : decode cX7_ask 79 = .ok (.ireturn, 1) := by decide +kernel
theorem dX7_trace_0 : decode cX7_trace 0 = .ok (.iload_n 1, 1) := by decide +kernel
theorem dX7_trace_1 : decode cX7_trace 1 = .ok (.iconst 0, 1) := by decide +kernel
theorem dX7_trace_2 : decode cX7_trace 2 = .ok (.aload_n 0, 1) := by decide +kernel
theorem dX7_trace_3 : decode cX7_trace 3 = .ok (.getfield 243, 3) := by decide +kernel
theorem dX7_trace_6 : decode cX7_trace 6 = .ok (.iconst 1, 1) := by decide +kernel
theorem dX7_trace_7 : decode cX7_trace 7 = .ok (.isub, 1) := by decide +kernel
theorem dX7_trace_8 : decode cX7_trace 8 = .ok (.invokestatic 65, 3) := by decide +kernel
theorem dX7_trace_11 : decode cX7_trace 11 = .ok (.ifCond .eq 12, 3) := by decide +kernel
theorem dX7_trace_14 : decode cX7_trace 14 = .ok (.aload_n 0, 1) := by decide +kernel
theorem dX7_trace_15 : decode cX7_trace 15 = .ok (.getfield 56, 3) := by decide +kernel
theorem dX7_trace_18 : decode cX7_trace 18 = .ok (.iload_n 1, 1) := by decide +kernel
theorem dX7_trace_19 : decode cX7_trace 19 = .ok (.iaload, 1) := by decide +kernel
theorem dX7_trace_20 : decode cX7_trace 20 = .ok (.goto 5, 3) := by decide +kernel
theorem dX7_trace_23 : decode cX7_trace 23 = .ok (.ldc 59, 2) := by decide +kernel
theorem dX7_trace_25 : decode cX7_trace 25 = .ok (.ireturn, 1) := by decide +kernel
theorem dX7_count_0 : decode cX7_count 0 = .ok (.iconst 0, 1) := by decide +kernel
theorem dX7_count_1 : decode cX7_count 1 = .ok (.istore_n 2, 1) := by decide +kernel
theorem dX7_count_2 : decode cX7_count 2 = .ok (.iload_n 1, 1) := by decide +kernel
theorem dX7_count_3 : decode cX7_count 3 = .ok (.tableswitch 146 0 9 #[53, 85, 92, 99, 106, 113, 120, 128, 136, 141], 53) := by decide +kernel
theorem dX7_count_56 : decode cX7_count 56 = .ok (.iconst 0, 1) := by decide +kernel
theorem dX7_count_57 : decode cX7_count 57 = .ok (.istore_n 3, 1) := by decide +kernel
theorem dX7_count_58 : decode cX7_count 58 = .ok (.iload_n 3, 1) := by decide +kernel
theorem dX7_count_59 : decode cX7_count 59 = .ok (.bipush 8, 2) := by decide +kernel
theorem dX7_count_61 : decode cX7_count 61 = .ok (.if_icmp .ge 25, 3) := by decide +kernel
theorem dX7_count_64 : decode cX7_count 64 = .ok (.iload_n 2, 1) := by decide +kernel
theorem dX7_count_65 : decode cX7_count 65 = .ok (.aload_n 0, 1) := by decide +kernel
theorem dX7_count_66 : decode cX7_count 66 = .ok (.iload_n 3, 1) := by decide +kernel
