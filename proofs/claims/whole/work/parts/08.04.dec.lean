theorem dX7_advances_101 : decode cX7_advances 101 = .ok (.getfield 95, 3) := by decide +kernel
theorem dX7_advances_104 : decode cX7_advances 104 = .ok (.iconst 1, 1) := by decide +kernel
theorem dX7_advances_105 : decode cX7_advances 105 = .ok (.iadd, 1) := by decide +kernel
theorem dX7_advances_106 : decode cX7_advances 106 = .ok (.putfield 95, 3) := by decide +kernel
theorem dX7_advances_109 : decode cX7_advances 109 = .ok (.goto (-71), 3) := by decide +kernel
theorem dX7_advances_112 : decode cX7_advances 112 = .ok (.aload_n 0, 1) := by decide +kernel
theorem dX7_advances_113 : decode cX7_advances 113 = .ok (.aload_n 0, 1) := by decide +kernel
theorem dX7_advances_114 : decode cX7_advances 114 = .ok (.getfield 95, 3) := by decide +kernel
theorem dX7_advances_117 : decode cX7_advances 117 = .ok (.aload_n 0, 1) := by decide +kernel
theorem dX7_advances_118 : decode cX7_advances 118 = .ok (.getfield 98, 3) := by decide +kernel
theorem dX7_advances_121 : decode cX7_advances 121 = .ok (.isub, 1) := by decide +kernel
theorem dX7_advances_122 : decode cX7_advances 122 = .ok (.iconst 3, 1) := by decide +kernel
theorem dX7_advances_123 : decode cX7_advances 123 = .ok (.if_icmp .ge 7, 3) := by decide +kernel
theorem dX7_advances_126 : decode cX7_advances 126 = .ok (.iconst 2, 1) := by decide +kernel
theorem dX7_advances_127 : decode cX7_advances 127 = .ok (.goto 4, 3) := by decide +kernel
theorem dX7_advances_130 : decode cX7_advances 130 = .ok (.iconst 5, 1) := by decide +kernel
theorem dX7_advances_131 : decode cX7_advances 131 = .ok (.putfield 107, 3) := by decide +kernel
theorem dX7_advances_134 : decode cX7_advances 134 = .ok (.return_, 1) := by decide +kernel
theorem dX7_advances_135 : decode cX7_advances 135 = .ok (.aload_n 0, 1) := by decide +kernel
theorem dX7_advances_136 : decode cX7_advances 136 = .ok (.iload_n 1, 1) := by decide +kernel
theorem dX7_advances_137 : decode cX7_advances 137 = .ok (.ifCond .ge 7, 3) := by decide +kernel
theorem dX7_advances_140 : decode cX7_advances 140 = .ok (.iconst 0, 1) := by decide +kernel
theorem dX7_advances_141 : decode cX7_advances 141 = .ok (.goto 39, 3) := by decide +kernel
theorem dX7_advances_144 : decode cX7_advances 144 = .ok (.iload_n 1, 1) := by decide +kernel
theorem dX7_advances_145 : decode cX7_advances 145 = .ok (.bipush 97, 2) := by decide +kernel
theorem dX7_advances_147 : decode cX7_advances 147 = .ok (.bipush 122, 2) := by decide +kernel
theorem dX7_advances_149 : decode cX7_advances 149 = .ok (.invokestatic 65, 3) := by decide +kernel
theorem dX7_advances_152 : decode cX7_advances 152 = .ok (.ifCond .eq 7, 3) := by decide +kernel
theorem dX7_advances_155 : decode cX7_advances 155 = .ok (.iconst 1, 1) := by decide +kernel
theorem dX7_advances_156 : decode cX7_advances 156 = .ok (.goto 24, 3) := by decide +kernel
theorem dX7_advances_159 : decode cX7_advances 159 = .ok (.iload_n 1, 1) := by decide +kernel
theorem dX7_advances_160 : decode cX7_advances 160 = .ok (.bipush 44, 2) := by decide +kernel
theorem dX7_advances_162 : decode cX7_advances 162 = .ok (.if_icmp .ne 7, 3) := by decide +kernel
theorem dX7_advances_165 : decode cX7_advances 165 = .ok (.iconst 3, 1) := by decide +kernel
theorem dX7_advances_166 : decode cX7_advances 166 = .ok (.goto 14, 3) := by decide +kernel
theorem dX7_advances_169 : decode cX7_advances 169 = .ok (.iload_n 1, 1) := by decide +kernel
theorem dX7_advances_170 : decode cX7_advances 170 = .ok (.bipush 59, 2) := by decide +kernel
theorem dX7_advances_172 : decode cX7_advances 172 = .ok (.if_icmp .ne 7, 3) := by decide +kernel
theorem dX7_advances_175 : decode cX7_advances 175 = .ok (.iconst 4, 1) := by decide +kernel
theorem dX7_advances_176 : decode cX7_advances 176 = .ok (.goto 4, 3) := by decide +kernel
theorem dX7_advances_179 : decode cX7_advances 179 = .ok (.iconst 5, 1) := by decide +kernel
theorem dX7_advances_180 : decode cX7_advances 180 = .ok (.putfield 107, 3) := by decide +kernel
theorem dX7_advances_183 : decode cX7_advances 183 = .ok (.aload_n 0, 1) := by decide +kernel
theorem dX7_advances_184 : decode cX7_advances 184 = .ok (.dup, 1) := by decide +kernel
theorem dX7_advances_185 : decode cX7_advances 185 = .ok (.getfield 95, 3) := by decide +kernel
theorem dX7_advances_188 : decode cX7_advances 188 = .ok (.aload_n 0, 1) := by decide +kernel
theorem dX7_advances_189 : decode cX7_advances 189 = .ok (.getfield 107, 3) := by decide +kernel
theorem dX7_advances_192 : decode cX7_advances 192 = .ok (.ifCond .ne 7, 3) := by decide +kernel
theorem dX7_advances_195 : decode cX7_advances 195 = .ok (.iconst 0, 1) := by decide +kernel
theorem dX7_advances_196 : decode cX7_advances 196 = .ok (.goto 4, 3) := by decide +kernel
theorem dX7_advances_199 : decode cX7_advances 199 = .ok (.iconst 1, 1) := by decide +kernel
theorem dX7_advances_200 : decode cX7_advances 200 = .ok (.iadd, 1) := by decide +kernel
theorem dX7_advances_201 : decode cX7_advances 201 = .ok (.putfield 95, 3) := by decide +kernel
theorem dX7_advances_204 : decode cX7_advances 204 = .ok (.return_, 1) := by decide +kernel
theorem dX7_isWell_0 : decode cX7_isWell 0 = .ok (.aload_n 0, 1) := by decide +kernel
theorem dX7_isWell_1 : decode cX7_isWell 1 = .ok (.getfield 110, 3) := by decide +kernel
theorem dX7_isWell_4 : decode cX7_isWell 4 = .ok (.ifCond .ge 7, 3) := by decide +kernel
theorem dX7_isWell_7 : decode cX7_isWell 7 = .ok (.iconst 1, 1) := by decide +kernel
theorem dX7_isWell_8 : decode cX7_isWell 8 = .ok (.goto 4, 3) := by decide +kernel
theorem dX7_isWell_11 : decode cX7_isWell 11 = .ok (.iconst 0, 1) := by decide +kernel
theorem dX7_isWell_12 : decode cX7_isWell 12 = .ok (.ireturn, 1) := by decide +kernel
theorem dX7_takes_0 : decode cX7_takes 0 = .ok (.aload_n 0, 1) := by decide +kernel
theorem dX7_takes_1 : decode cX7_takes 1 = .ok (.invokevirtual 113, 3) := by decide +kernel
theorem dX7_takes_4 : decode cX7_takes 4 = .ok (.ifCond .ne 5, 3) := by decide +kernel
theorem dX7_takes_7 : decode cX7_takes 7 = .ok (.iconst 0, 1) := by decide +kernel
theorem dX7_takes_8 : decode cX7_takes 8 = .ok (.ireturn, 1) := by decide +kernel
theorem dX7_takes_9 : decode cX7_takes 9 = .ok (.iload_n 1, 1) := by decide +kernel
theorem dX7_takes_10 : decode cX7_takes 10 = .ok (.ifCond .ne 18, 3) := by decide +kernel
theorem dX7_takes_13 : decode cX7_takes 13 = .ok (.aload_n 0, 1) := by decide +kernel
theorem dX7_takes_14 : decode cX7_takes 14 = .ok (.aload_n 0, 1) := by decide +kernel
theorem dX7_takes_15 : decode cX7_takes 15 = .ok (.getfield 98, 3) := by decide +kernel
theorem dX7_takes_18 : decode cX7_takes 18 = .ok (.putfield 110, 3) := by decide +kernel
theorem dX7_takes_21 : decode cX7_takes 21 = .ok (.aload_n 0, 1) := by decide +kernel
theorem dX7_takes_22 : decode cX7_takes 22 = .ok (.iload_n 2, 1) := by decide +kernel
theorem dX7_takes_23 : decode cX7_takes 23 = .ok (.putfield 117, 3) := by decide +kernel
theorem dX7_takes_26 : decode cX7_takes 26 = .ok (.iconst 0, 1) := by decide +kernel
theorem dX7_takes_27 : decode cX7_takes 27 = .ok (.ireturn, 1) := by decide +kernel
theorem dX7_takes_28 : decode cX7_takes 28 = .ok (.aload_n 0, 1) := by decide +kernel
theorem dX7_takes_29 : decode cX7_takes 29 = .ok (.getfield 104, 3) := by decide +kernel
theorem dX7_takes_32 : decode cX7_takes 32 = .ok (.istore_n 3, 1) := by decide +kernel
theorem dX7_takes_33 : decode cX7_takes 33 = .ok (.aload_n 0, 1) := by decide +kernel
theorem dX7_takes_34 : decode cX7_takes 34 = .ok (.invokevirtual 120, 3) := by decide +kernel
theorem dX7_takes_37 : decode cX7_takes 37 = .ok (.iload_n 3, 1) := by decide +kernel
theorem dX7_takes_38 : decode cX7_takes 38 = .ok (.ireturn, 1) := by decide +kernel
theorem dX7_figure_0 : decode cX7_figure 0 = .ok (.aload_n 0, 1) := by decide +kernel
theorem dX7_figure_1 : decode cX7_figure 1 = .ok (.invokevirtual 113, 3) := by decide +kernel
theorem dX7_figure_4 : decode cX7_figure 4 = .ok (.ifCond .eq 18, 3) := by decide +kernel
theorem dX7_figure_7 : decode cX7_figure 7 = .ok (.aload_n 0, 1) := by decide +kernel
theorem dX7_figure_8 : decode cX7_figure 8 = .ok (.getfield 107, 3) := by decide +kernel
theorem dX7_figure_11 : decode cX7_figure 11 = .ok (.iconst 2, 1) := by decide +kernel
theorem dX7_figure_12 : decode cX7_figure 12 = .ok (.if_icmp .eq 10, 3) := by decide +kernel
theorem dX7_figure_15 : decode cX7_figure 15 = .ok (.aload_n 0, 1) := by decide +kernel
theorem dX7_figure_16 : decode cX7_figure 16 = .ok (.iconst 0, 1) := by decide +kernel
theorem dX7_figure_17 : decode cX7_figure 17 = .ok (.iconst 1, 1) := by decide +kernel
theorem dX7_figure_18 : decode cX7_figure 18 = .ok (.invokevirtual 123, 3) := by decide +kernel
theorem dX7_figure_21 : decode cX7_figure 21 = .ok (.ireturn, 1) := by decide +kernel
theorem dX7_figure_22 : decode cX7_figure 22 = .ok (.aload_n 0, 1) := by decide +kernel
theorem dX7_figure_23 : decode cX7_figure 23 = .ok (.aload_n 0, 1) := by decide +kernel
theorem dX7_figure_24 : decode cX7_figure 24 = .ok (.getfield 104, 3) := by decide +kernel
theorem dX7_figure_27 : decode cX7_figure 27 = .ok (.iload_n 1, 1) := by decide +kernel
theorem dX7_figure_28 : decode cX7_figure 28 = .ok (.iload_n 2, 1) := by decide +kernel
theorem dX7_figure_29 : decode cX7_figure 29 = .ok (.invokestatic 65, 3) := by decide +kernel
theorem dX7_figure_32 : decode cX7_figure 32 = .ok (.iconst 2, 1) := by decide +kernel
theorem dX7_figure_33 : decode cX7_figure 33 = .ok (.invokevirtual 123, 3) := by decide +kernel
theorem dX7_figure_36 : decode cX7_figure 36 = .ok (.ireturn, 1) := by decide +kernel
theorem dX7_kindOf_0 : decode cX7_kindOf 0 = .ok (.iload_n 0, 1) := by decide +kernel
theorem dX7_kindOf_1 : decode cX7_kindOf 1 = .ok (.bipush 108, 2) := by decide +kernel
theorem dX7_kindOf_3 : decode cX7_kindOf 3 = .ok (.if_icmp .ne 7, 3) := by decide +kernel
theorem dX7_kindOf_6 : decode cX7_kindOf 6 = .ok (.iconst 1, 1) := by decide +kernel
theorem dX7_kindOf_7 : decode cX7_kindOf 7 = .ok (.goto 44, 3) := by decide +kernel
theorem dX7_kindOf_10 : decode cX7_kindOf 10 = .ok (.iload_n 0, 1) := by decide +kernel
theorem dX7_kindOf_11 : decode cX7_kindOf 11 = .ok (.bipush 111, 2) := by decide +kernel
theorem dX7_kindOf_13 : decode cX7_kindOf 13 = .ok (.if_icmp .ne 7, 3) := by decide +kernel
theorem dX7_kindOf_16 : decode cX7_kindOf 16 = .ok (.iconst 2, 1) := by decide +kernel
theorem dX7_kindOf_17 : decode cX7_kindOf 17 = .ok (.goto 34, 3) := by decide +kernel
theorem dX7_kindOf_20 : decode cX7_kindOf 20 = .ok (.iload_n 0, 1) := by decide +kernel
theorem dX7_kindOf_21 : decode cX7_kindOf 21 = .ok (.bipush 115, 2) := by decide +kernel
theorem dX7_kindOf_23 : decode cX7_kindOf 23 = .ok (.if_icmp .ne 7, 3) := by decide +kernel
theorem dX7_kindOf_26 : decode cX7_kindOf 26 = .ok (.iconst 3, 1) := by decide +kernel
theorem dX7_kindOf_27 : decode cX7_kindOf 27 = .ok (.goto 24, 3) := by decide +kernel
theorem dX7_kindOf_30 : decode cX7_kindOf 30 = .ok (.iload_n 0, 1) := by decide +kernel
theorem dX7_kindOf_31 : decode cX7_kindOf 31 = .ok (.bipush 116, 2) := by decide +kernel
theorem dX7_kindOf_33 : decode cX7_kindOf 33 = .ok (.if_icmp .ne 7, 3) := by decide +kernel
theorem dX7_kindOf_36 : decode cX7_kindOf 36 = .ok (.iconst 4, 1) := by decide +kernel
theorem dX7_kindOf_37 : decode cX7_kindOf 37 = .ok (.goto 14, 3) := by decide +kernel
theorem dX7_kindOf_40 : decode cX7_kindOf 40 = .ok (.iload_n 0, 1) := by decide +kernel
theorem dX7_kindOf_41 : decode cX7_kindOf 41 = .ok (.bipush 98, 2) := by decide +kernel
theorem dX7_kindOf_43 : decode cX7_kindOf 43 = .ok (.if_icmp .ne 7, 3) := by decide +kernel
theorem dX7_kindOf_46 : decode cX7_kindOf 46 = .ok (.iconst 5, 1) := by decide +kernel
theorem dX7_kindOf_47 : decode cX7_kindOf 47 = .ok (.goto 4, 3) := by decide +kernel
theorem dX7_kindOf_50 : decode cX7_kindOf 50 = .ok (.iconst 0, 1) := by decide +kernel
theorem dX7_kindOf_51 : decode cX7_kindOf 51 = .ok (.ireturn, 1) := by decide +kernel
theorem dX7_follows_0 : decode cX7_follows 0 = .ok (.aload_n 0, 1) := by decide +kernel
theorem dX7_follows_1 : decode cX7_follows 1 = .ok (.aload_n 0, 1) := by decide +kernel
theorem dX7_follows_2 : decode cX7_follows 2 = .ok (.getfield 107, 3) := by decide +kernel
theorem dX7_follows_5 : decode cX7_follows 5 = .ok (.iconst 3, 1) := by decide +kernel
theorem dX7_follows_6 : decode cX7_follows 6 = .ok (.if_icmp .ne 7, 3) := by decide +kernel
theorem dX7_follows_9 : decode cX7_follows 9 = .ok (.iconst 1, 1) := by decide +kernel
theorem dX7_follows_10 : decode cX7_follows 10 = .ok (.goto 4, 3) := by decide +kernel
theorem dX7_follows_13 : decode cX7_follows 13 = .ok (.iconst 0, 1) := by decide +kernel
theorem dX7_follows_14 : decode cX7_follows 14 = .ok (.iconst 1, 1) := by decide +kernel
theorem dX7_follows_15 : decode cX7_follows 15 = .ok (.invokevirtual 123, 3) := by decide +kernel
theorem dX7_follows_18 : decode cX7_follows 18 = .ok (.pop, 1) := by decide +kernel
theorem dX7_follows_19 : decode cX7_follows 19 = .ok (.aload_n 0, 1) := by decide +kernel
theorem dX7_follows_20 : decode cX7_follows 20 = .ok (.iload_n 1, 1) := by decide +kernel
theorem dX7_follows_21 : decode cX7_follows 21 = .ok (.iload_n 2, 1) := by decide +kernel
theorem dX7_follows_22 : decode cX7_follows 22 = .ok (.invokevirtual 127, 3) := by decide +kernel
theorem dX7_follows_25 : decode cX7_follows 25 = .ok (.ireturn, 1) := by decide +kernel
theorem dX7_readsHearth_0 : decode cX7_readsHearth 0 = .ok (.aload_n 0, 1) := by decide +kernel
theorem dX7_readsHearth_1 : decode cX7_readsHearth 1 = .ok (.aload_n 0, 1) := by decide +kernel
theorem dX7_readsHearth_2 : decode cX7_readsHearth 2 = .ok (.getfield 28, 3) := by decide +kernel
theorem dX7_readsHearth_5 : decode cX7_readsHearth 5 = .ok (.iconst 2, 1) := by decide +kernel
theorem dX7_readsHearth_6 : decode cX7_readsHearth 6 = .ok (.iaload, 1) := by decide +kernel
theorem dX7_readsHearth_7 : decode cX7_readsHearth 7 = .ok (.bipush 8, 2) := by decide +kernel
theorem dX7_readsHearth_9 : decode cX7_readsHearth 9 = .ok (.if_icmp .ge 7, 3) := by decide +kernel
theorem dX7_readsHearth_12 : decode cX7_readsHearth 12 = .ok (.iconst 1, 1) := by decide +kernel
theorem dX7_readsHearth_13 : decode cX7_readsHearth 13 = .ok (.goto 4, 3) := by decide +kernel
theorem dX7_readsHearth_16 : decode cX7_readsHearth 16 = .ok (.iconst 0, 1) := by decide +kernel
theorem dX7_readsHearth_17 : decode cX7_readsHearth 17 = .ok (.iconst 3, 1) := by decide +kernel
theorem dX7_readsHearth_18 : decode cX7_readsHearth 18 = .ok (.invokevirtual 123, 3) := by decide +kernel
theorem dX7_readsHearth_21 : decode cX7_readsHearth 21 = .ok (.pop, 1) := by decide +kernel
theorem dX7_readsHearth_22 : decode cX7_readsHearth 22 = .ok (.iconst 5, 1) := by decide +kernel
theorem dX7_readsHearth_23 : decode cX7_readsHearth 23 = .ok (.aload_n 0, 1) := by decide +kernel
theorem dX7_readsHearth_24 : decode cX7_readsHearth 24 = .ok (.getfield 28, 3) := by decide +kernel
theorem dX7_readsHearth_27 : decode cX7_readsHearth 27 = .ok (.iconst 2, 1) := by decide +kernel
theorem dX7_readsHearth_28 : decode cX7_readsHearth 28 = .ok (.iaload, 1) := by decide +kernel
theorem dX7_readsHearth_29 : decode cX7_readsHearth 29 = .ok (.bipush 8, 2) := by decide +kernel
theorem dX7_readsHearth_31 : decode cX7_readsHearth 31 = .ok (.if_icmp .ge 12, 3) := by decide +kernel
theorem dX7_readsHearth_34 : decode cX7_readsHearth 34 = .ok (.aload_n 0, 1) := by decide +kernel
theorem dX7_readsHearth_35 : decode cX7_readsHearth 35 = .ok (.getfield 28, 3) := by decide +kernel
theorem dX7_readsHearth_38 : decode cX7_readsHearth 38 = .ok (.iconst 2, 1) := by decide +kernel
theorem dX7_readsHearth_39 : decode cX7_readsHearth 39 = .ok (.iaload, 1) := by decide +kernel
theorem dX7_readsHearth_40 : decode cX7_readsHearth 40 = .ok (.goto 4, 3) := by decide +kernel
theorem dX7_readsHearth_43 : decode cX7_readsHearth 43 = .ok (.iconst 0, 1) := by decide +kernel
theorem dX7_readsHearth_44 : decode cX7_readsHearth 44 = .ok (.iadd, 1) := by decide +kernel
theorem dX7_readsHearth_45 : decode cX7_readsHearth 45 = .ok (.istore_n 1, 1) := by decide +kernel
theorem dX7_readsHearth_46 : decode cX7_readsHearth 46 = .ok (.aload_n 0, 1) := by decide +kernel
theorem dX7_readsHearth_47 : decode cX7_readsHearth 47 = .ok (.iconst 0, 1) := by decide +kernel
theorem dX7_readsHearth_48 : decode cX7_readsHearth 48 = .ok (.bipush 20, 2) := by decide +kernel
theorem dX7_readsHearth_50 : decode cX7_readsHearth 50 = .ok (.invokevirtual 127, 3) := by decide +kernel
theorem dX7_readsHearth_53 : decode cX7_readsHearth 53 = .ok (.istore_n 2, 1) := by decide +kernel
theorem dX7_readsHearth_54 : decode cX7_readsHearth 54 = .ok (.aload_n 0, 1) := by decide +kernel
theorem dX7_readsHearth_55 : decode cX7_readsHearth 55 = .ok (.aload_n 0, 1) := by decide +kernel
theorem dX7_readsHearth_56 : decode cX7_readsHearth 56 = .ok (.getfield 107, 3) := by decide +kernel
theorem dX7_readsHearth_59 : decode cX7_readsHearth 59 = .ok (.iconst 4, 1) := by decide +kernel
theorem dX7_readsHearth_60 : decode cX7_readsHearth 60 = .ok (.if_icmp .ne 7, 3) := by decide +kernel
theorem dX7_readsHearth_63 : decode cX7_readsHearth 63 = .ok (.iconst 1, 1) := by decide +kernel
theorem dX7_readsHearth_64 : decode cX7_readsHearth 64 = .ok (.goto 4, 3) := by decide +kernel
theorem dX7_readsHearth_67 : decode cX7_readsHearth 67 = .ok (.iconst 0, 1) := by decide +kernel
theorem dX7_readsHearth_68 : decode cX7_readsHearth 68 = .ok (.iconst 1, 1) := by decide +kernel
theorem dX7_readsHearth_69 : decode cX7_readsHearth 69 = .ok (.invokevirtual 123, 3) := by decide +kernel
theorem dX7_readsHearth_72 : decode cX7_readsHearth 72 = .ok (.pop, 1) := by decide +kernel
theorem dX7_readsHearth_73 : decode cX7_readsHearth 73 = .ok (.aload_n 0, 1) := by decide +kernel
theorem dX7_readsHearth_74 : decode cX7_readsHearth 74 = .ok (.invokevirtual 113, 3) := by decide +kernel
theorem dX7_readsHearth_77 : decode cX7_readsHearth 77 = .ok (.ifCond .eq 20, 3) := by decide +kernel
theorem dX7_readsHearth_80 : decode cX7_readsHearth 80 = .ok (.aload_n 0, 1) := by decide +kernel
theorem dX7_readsHearth_81 : decode cX7_readsHearth 81 = .ok (.getfield 28, 3) := by decide +kernel
theorem dX7_readsHearth_84 : decode cX7_readsHearth 84 = .ok (.iload_n 1, 1) := by decide +kernel
theorem dX7_readsHearth_85 : decode cX7_readsHearth 85 = .ok (.iload_n 2, 1) := by decide +kernel
theorem dX7_readsHearth_86 : decode cX7_readsHearth 86 = .ok (.iastore, 1) := by decide +kernel
theorem dX7_readsHearth_87 : decode cX7_readsHearth 87 = .ok (.aload_n 0, 1) := by decide +kernel
theorem dX7_readsHearth_88 : decode cX7_readsHearth 88 = .ok (.getfield 28, 3) := by decide +kernel
theorem dX7_readsHearth_91 : decode cX7_readsHearth 91 = .ok (.iconst 2, 1) := by decide +kernel
theorem dX7_readsHearth_92 : decode cX7_readsHearth 92 = .ok (.dup2, 1) := by decide +kernel
theorem dX7_readsHearth_93 : decode cX7_readsHearth 93 = .ok (.iaload, 1) := by decide +kernel
theorem dX7_readsHearth_94 : decode cX7_readsHearth 94 = .ok (.iconst 1, 1) := by decide +kernel
theorem dX7_readsHearth_95 : decode cX7_readsHearth 95 = .ok (.iadd, 1) := by decide +kernel
theorem dX7_readsHearth_96 : decode cX7_readsHearth 96 = .ok (.iastore, 1) := by decide +kernel
theorem dX7_readsHearth_97 : decode cX7_readsHearth 97 = .ok (.return_, 1) := by decide +kernel
theorem dX7_readsPair_0 : decode cX7_readsPair 0 = .ok (.aload_n 0, 1) := by decide +kernel
theorem dX7_readsPair_1 : decode cX7_readsPair 1 = .ok (.getfield 104, 3) := by decide +kernel
theorem dX7_readsPair_4 : decode cX7_readsPair 4 = .ok (.invokestatic 130, 3) := by decide +kernel
theorem dX7_readsPair_7 : decode cX7_readsPair 7 = .ok (.istore_n 1, 1) := by decide +kernel
theorem dX7_readsPair_8 : decode cX7_readsPair 8 = .ok (.aload_n 0, 1) := by decide +kernel
theorem dX7_readsPair_9 : decode cX7_readsPair 9 = .ok (.aload_n 0, 1) := by decide +kernel
theorem dX7_readsPair_10 : decode cX7_readsPair 10 = .ok (.getfield 28, 3) := by decide +kernel
theorem dX7_readsPair_13 : decode cX7_readsPair 13 = .ok (.iconst 3, 1) := by decide +kernel
theorem dX7_readsPair_14 : decode cX7_readsPair 14 = .ok (.iaload, 1) := by decide +kernel
theorem dX7_readsPair_15 : decode cX7_readsPair 15 = .ok (.bipush 7, 2) := by decide +kernel
theorem dX7_readsPair_17 : decode cX7_readsPair 17 = .ok (.if_icmp .ge 7, 3) := by decide +kernel
theorem dX7_readsPair_20 : decode cX7_readsPair 20 = .ok (.iconst 1, 1) := by decide +kernel
theorem dX7_readsPair_21 : decode cX7_readsPair 21 = .ok (.goto 4, 3) := by decide +kernel
theorem dX7_readsPair_24 : decode cX7_readsPair 24 = .ok (.iconst 0, 1) := by decide +kernel
theorem dX7_readsPair_25 : decode cX7_readsPair 25 = .ok (.iconst 3, 1) := by decide +kernel
theorem dX7_readsPair_26 : decode cX7_readsPair 26 = .ok (.invokevirtual 123, 3) := by decide +kernel
theorem dX7_readsPair_29 : decode cX7_readsPair 29 = .ok (.pop, 1) := by decide +kernel
theorem dX7_readsPair_30 : decode cX7_readsPair 30 = .ok (.bipush 13, 2) := by decide +kernel
theorem dX7_readsPair_32 : decode cX7_readsPair 32 = .ok (.iconst 4, 1) := by decide +kernel
theorem dX7_readsPair_33 : decode cX7_readsPair 33 = .ok (.aload_n 0, 1) := by decide +kernel
theorem dX7_readsPair_34 : decode cX7_readsPair 34 = .ok (.getfield 28, 3) := by decide +kernel
theorem dX7_readsPair_37 : decode cX7_readsPair 37 = .ok (.iconst 3, 1) := by decide +kernel
theorem dX7_readsPair_38 : decode cX7_readsPair 38 = .ok (.iaload, 1) := by decide +kernel
theorem dX7_readsPair_39 : decode cX7_readsPair 39 = .ok (.bipush 7, 2) := by decide +kernel
theorem dX7_readsPair_41 : decode cX7_readsPair 41 = .ok (.if_icmp .ge 12, 3) := by decide +kernel
theorem dX7_readsPair_44 : decode cX7_readsPair 44 = .ok (.aload_n 0, 1) := by decide +kernel
theorem dX7_readsPair_45 : decode cX7_readsPair 45 = .ok (.getfield 28, 3) := by decide +kernel
theorem dX7_readsPair_48 : decode cX7_readsPair 48 = .ok (.iconst 3, 1) := by decide +kernel
theorem dX7_readsPair_49 : decode cX7_readsPair 49 = .ok (.iaload, 1) := by decide +kernel
theorem dX7_readsPair_50 : decode cX7_readsPair 50 = .ok (.goto 4, 3) := by decide +kernel
theorem dX7_readsPair_53 : decode cX7_readsPair 53 = .ok (.iconst 0, 1) := by decide +kernel
theorem dX7_readsPair_54 : decode cX7_readsPair 54 = .ok (.imul, 1) := by decide +kernel
theorem dX7_readsPair_55 : decode cX7_readsPair 55 = .ok (.iadd, 1) := by decide +kernel
theorem dX7_readsPair_56 : decode cX7_readsPair 56 = .ok (.istore_n 2, 1) := by decide +kernel
theorem dX7_readsPair_57 : decode cX7_readsPair 57 = .ok (.aload_n 0, 1) := by decide +kernel
theorem dX7_readsPair_58 : decode cX7_readsPair 58 = .ok (.iconst 0, 1) := by decide +kernel
theorem dX7_readsPair_59 : decode cX7_readsPair 59 = .ok (.bipush 40, 2) := by decide +kernel
theorem dX7_readsPair_61 : decode cX7_readsPair 61 = .ok (.invokevirtual 127, 3) := by decide +kernel
theorem dX7_readsPair_64 : decode cX7_readsPair 64 = .ok (.istore_n 3, 1) := by decide +kernel
theorem dX7_readsPair_65 : decode cX7_readsPair 65 = .ok (.aload_n 0, 1) := by decide +kernel
theorem dX7_readsPair_66 : decode cX7_readsPair 66 = .ok (.iconst 0, 1) := by decide +kernel
theorem dX7_readsPair_67 : decode cX7_readsPair 67 = .ok (.aload_n 0, 1) := by decide +kernel
theorem dX7_readsPair_68 : decode cX7_readsPair 68 = .ok (.getfield 28, 3) := by decide +kernel
theorem dX7_readsPair_71 : decode cX7_readsPair 71 = .ok (.iconst 2, 1) := by decide +kernel
theorem dX7_readsPair_72 : decode cX7_readsPair 72 = .ok (.iaload, 1) := by decide +kernel
theorem dX7_readsPair_73 : decode cX7_readsPair 73 = .ok (.iconst 1, 1) := by decide +kernel
theorem dX7_readsPair_74 : decode cX7_readsPair 74 = .ok (.isub, 1) := by decide +kernel
theorem dX7_readsPair_75 : decode cX7_readsPair 75 = .ok (.invokevirtual 133, 3) := by decide +kernel
theorem dX7_readsPair_78 : decode cX7_readsPair 78 = .ok (.istore 4, 2) := by decide +kernel
theorem dX7_readsPair_80 : decode cX7_readsPair 80 = .ok (.aload_n 0, 1) := by decide +kernel
theorem dX7_readsPair_81 : decode cX7_readsPair 81 = .ok (.iconst 0, 1) := by decide +kernel
theorem dX7_readsPair_82 : decode cX7_readsPair 82 = .ok (.iconst 1, 1) := by decide +kernel
theorem dX7_readsPair_83 : decode cX7_readsPair 83 = .ok (.invokevirtual 133, 3) := by decide +kernel
theorem dX7_readsPair_86 : decode cX7_readsPair 86 = .ok (.istore 5, 2) := by decide +kernel
theorem dX7_readsPair_88 : decode cX7_readsPair 88 = .ok (.aload_n 0, 1) := by decide +kernel
theorem dX7_readsPair_89 : decode cX7_readsPair 89 = .ok (.aload_n 0, 1) := by decide +kernel
theorem dX7_readsPair_90 : decode cX7_readsPair 90 = .ok (.getfield 107, 3) := by decide +kernel
theorem dX7_readsPair_93 : decode cX7_readsPair 93 = .ok (.iconst 4, 1) := by decide +kernel
theorem dX7_readsPair_94 : decode cX7_readsPair 94 = .ok (.if_icmp .ne 7, 3) := by decide +kernel
theorem dX7_readsPair_97 : decode cX7_readsPair 97 = .ok (.iconst 1, 1) := by decide +kernel
theorem dX7_readsPair_98 : decode cX7_readsPair 98 = .ok (.goto 4, 3) := by decide +kernel
theorem dX7_readsPair_101 : decode cX7_readsPair 101 = .ok (.iconst 0, 1) := by decide +kernel
theorem dX7_readsPair_102 : decode cX7_readsPair 102 = .ok (.iconst 1, 1) := by decide +kernel
theorem dX7_readsPair_103 : decode cX7_readsPair 103 = .ok (.invokevirtual 123, 3) := by decide +kernel
theorem dX7_readsPair_106 : decode cX7_readsPair 106 = .ok (.pop, 1) := by decide +kernel
theorem dX7_readsPair_107 : decode cX7_readsPair 107 = .ok (.aload_n 0, 1) := by decide +kernel
theorem dX7_readsPair_108 : decode cX7_readsPair 108 = .ok (.invokevirtual 113, 3) := by decide +kernel
theorem dX7_readsPair_111 : decode cX7_readsPair 111 = .ok (.ifCond .eq 49, 3) := by decide +kernel
theorem dX7_readsPair_114 : decode cX7_readsPair 114 = .ok (.aload_n 0, 1) := by decide +kernel
theorem dX7_readsPair_115 : decode cX7_readsPair 115 = .ok (.getfield 28, 3) := by decide +kernel
theorem dX7_readsPair_118 : decode cX7_readsPair 118 = .ok (.iload_n 2, 1) := by decide +kernel
theorem dX7_readsPair_119 : decode cX7_readsPair 119 = .ok (.iload_n 1, 1) := by decide +kernel
theorem dX7_readsPair_120 : decode cX7_readsPair 120 = .ok (.iastore, 1) := by decide +kernel
theorem dX7_readsPair_121 : decode cX7_readsPair 121 = .ok (.aload_n 0, 1) := by decide +kernel
theorem dX7_readsPair_122 : decode cX7_readsPair 122 = .ok (.getfield 28, 3) := by decide +kernel
theorem dX7_readsPair_125 : decode cX7_readsPair 125 = .ok (.iload_n 2, 1) := by decide +kernel
theorem dX7_readsPair_126 : decode cX7_readsPair 126 = .ok (.iconst 1, 1) := by decide +kernel
theorem dX7_readsPair_127 : decode cX7_readsPair 127 = .ok (.iadd, 1) := by decide +kernel
theorem dX7_readsPair_128 : decode cX7_readsPair 128 = .ok (.iload_n 3, 1) := by decide +kernel
theorem dX7_readsPair_129 : decode cX7_readsPair 129 = .ok (.iastore, 1) := by decide +kernel
theorem dX7_readsPair_130 : decode cX7_readsPair 130 = .ok (.aload_n 0, 1) := by decide +kernel
theorem dX7_readsPair_131 : decode cX7_readsPair 131 = .ok (.getfield 28, 3) := by decide +kernel
theorem dX7_readsPair_134 : decode cX7_readsPair 134 = .ok (.iload_n 2, 1) := by decide +kernel
theorem dX7_readsPair_135 : decode cX7_readsPair 135 = .ok (.iconst 2, 1) := by decide +kernel
theorem dX7_readsPair_136 : decode cX7_readsPair 136 = .ok (.iadd, 1) := by decide +kernel
theorem dX7_readsPair_137 : decode cX7_readsPair 137 = .ok (.iload 4, 2) := by decide +kernel
theorem dX7_readsPair_139 : decode cX7_readsPair 139 = .ok (.iastore, 1) := by decide +kernel
theorem dX7_readsPair_140 : decode cX7_readsPair 140 = .ok (.aload_n 0, 1) := by decide +kernel
theorem dX7_readsPair_141 : decode cX7_readsPair 141 = .ok (.getfield 28, 3) := by decide +kernel
theorem dX7_readsPair_144 : decode cX7_readsPair 144 = .ok (.iload_n 2, 1) := by decide +kernel
theorem dX7_readsPair_145 : decode cX7_readsPair 145 = .ok (.iconst 3, 1) := by decide +kernel
theorem dX7_readsPair_146 : decode cX7_readsPair 146 = .ok (.iadd, 1) := by decide +kernel
theorem dX7_readsPair_147 : decode cX7_readsPair 147 = .ok (.iload 5, 2) := by decide +kernel
theorem dX7_readsPair_149 : decode cX7_readsPair 149 = .ok (.iastore, 1) := by decide +kernel
theorem dX7_readsPair_150 : decode cX7_readsPair 150 = .ok (.aload_n 0, 1) := by decide +kernel
theorem dX7_readsPair_151 : decode cX7_readsPair 151 = .ok (.getfield 28, 3) := by decide +kernel
theorem dX7_readsPair_154 : decode cX7_readsPair 154 = .ok (.iconst 3, 1) := by decide +kernel
theorem dX7_readsPair_155 : decode cX7_readsPair 155 = .ok (.dup2, 1) := by decide +kernel
theorem dX7_readsPair_156 : decode cX7_readsPair 156 = .ok (.iaload, 1) := by decide +kernel
theorem dX7_readsPair_157 : decode cX7_readsPair 157 = .ok (.iconst 1, 1) := by decide +kernel
theorem dX7_readsPair_158 : decode cX7_readsPair 158 = .ok (.iadd, 1) := by decide +kernel
theorem dX7_readsPair_159 : decode cX7_readsPair 159 = .ok (.iastore, 1) := by decide +kernel
theorem dX7_readsPair_160 : decode cX7_readsPair 160 = .ok (.return_, 1) := by decide +kernel
theorem dX7_must_0 : decode cX7_must 0 = .ok (.aload_n 0, 1) := by decide +kernel
theorem dX7_must_1 : decode cX7_must 1 = .ok (.invokevirtual 113, 3) := by decide +kernel
theorem dX7_must_4 : decode cX7_must 4 = .ok (.ifCond .eq 14, 3) := by decide +kernel
theorem dX7_must_7 : decode cX7_must 7 = .ok (.iload_n 1, 1) := by decide +kernel
theorem dX7_must_8 : decode cX7_must 8 = .ok (.ifCond .ne 10, 3) := by decide +kernel
theorem dX7_must_11 : decode cX7_must 11 = .ok (.aload_n 0, 1) := by decide +kernel
theorem dX7_must_12 : decode cX7_must 12 = .ok (.iconst 0, 1) := by decide +kernel
theorem dX7_must_13 : decode cX7_must 13 = .ok (.iconst 1, 1) := by decide +kernel
theorem dX7_must_14 : decode cX7_must 14 = .ok (.invokevirtual 123, 3) := by decide +kernel
theorem dX7_must_17 : decode cX7_must 17 = .ok (.pop, 1) := by decide +kernel
theorem dX7_must_18 : decode cX7_must 18 = .ok (.return_, 1) := by decide +kernel
theorem dX7_house_0 : decode cX7_house 0 = .ok (.iconst 0, 1) := by decide +kernel
theorem dX7_house_1 : decode cX7_house 1 = .ok (.istore_n 1, 1) := by decide +kernel
theorem dX7_house_2 : decode cX7_house 2 = .ok (.iload_n 1, 1) := by decide +kernel
theorem dX7_house_3 : decode cX7_house 3 = .ok (.bipush 41, 2) := by decide +kernel
theorem dX7_house_5 : decode cX7_house 5 = .ok (.if_icmp .ge 16, 3) := by decide +kernel
theorem dX7_house_8 : decode cX7_house 8 = .ok (.aload_n 0, 1) := by decide +kernel
theorem dX7_house_9 : decode cX7_house 9 = .ok (.getfield 28, 3) := by decide +kernel
theorem dX7_house_12 : decode cX7_house 12 = .ok (.iload_n 1, 1) := by decide +kernel
theorem dX7_house_13 : decode cX7_house 13 = .ok (.iconst 0, 1) := by decide +kernel
theorem dX7_house_14 : decode cX7_house 14 = .ok (.iastore, 1) := by decide +kernel
theorem dX7_house_15 : decode cX7_house 15 = .ok (.iinc 1 1, 3) := by decide +kernel
theorem dX7_house_18 : decode cX7_house 18 = .ok (.goto (-16), 3) := by decide +kernel
theorem dX7_house_21 : decode cX7_house 21 = .ok (.aload_n 0, 1) := by decide +kernel
theorem dX7_house_22 : decode cX7_house 22 = .ok (.iconst 0, 1) := by decide +kernel
theorem dX7_house_23 : decode cX7_house 23 = .ok (.putfield 95, 3) := by decide +kernel
theorem dX7_house_26 : decode cX7_house 26 = .ok (.aload_n 0, 1) := by decide +kernel
theorem dX7_house_27 : decode cX7_house 27 = .ok (.iconst (-1), 1) := by decide +kernel
theorem dX7_house_28 : decode cX7_house 28 = .ok (.putfield 110, 3) := by decide +kernel
theorem dX7_house_31 : decode cX7_house 31 = .ok (.aload_n 0, 1) := by decide +kernel
theorem dX7_house_32 : decode cX7_house 32 = .ok (.invokevirtual 120, 3) := by decide +kernel
theorem dX7_house_35 : decode cX7_house 35 = .ok (.aload_n 0, 1) := by decide +kernel
theorem dX7_house_36 : decode cX7_house 36 = .ok (.aload_n 0, 1) := by decide +kernel
theorem dX7_house_37 : decode cX7_house 37 = .ok (.getfield 107, 3) := by decide +kernel
theorem dX7_house_40 : decode cX7_house 40 = .ok (.iconst 1, 1) := by decide +kernel
theorem dX7_house_41 : decode cX7_house 41 = .ok (.if_icmp .ne 16, 3) := by decide +kernel
theorem dX7_house_44 : decode cX7_house 44 = .ok (.aload_n 0, 1) := by decide +kernel
theorem dX7_house_45 : decode cX7_house 45 = .ok (.getfield 104, 3) := by decide +kernel
theorem dX7_house_48 : decode cX7_house 48 = .ok (.bipush 104, 2) := by decide +kernel
theorem dX7_house_50 : decode cX7_house 50 = .ok (.if_icmp .ne 7, 3) := by decide +kernel
theorem dX7_house_53 : decode cX7_house 53 = .ok (.iconst 1, 1) := by decide +kernel
theorem dX7_house_54 : decode cX7_house 54 = .ok (.goto 4, 3) := by decide +kernel
theorem dX7_house_57 : decode cX7_house 57 = .ok (.iconst 0, 1) := by decide +kernel
theorem dX7_house_58 : decode cX7_house 58 = .ok (.iconst 1, 1) := by decide +kernel
theorem dX7_house_59 : decode cX7_house 59 = .ok (.invokevirtual 123, 3) := by decide +kernel
theorem dX7_house_62 : decode cX7_house 62 = .ok (.pop, 1) := by decide +kernel
theorem dX7_house_63 : decode cX7_house 63 = .ok (.aload_n 0, 1) := by decide +kernel
theorem dX7_house_64 : decode cX7_house 64 = .ok (.getfield 28, 3) := by decide +kernel
theorem dX7_house_67 : decode cX7_house 67 = .ok (.iconst 0, 1) := by decide +kernel
theorem dX7_house_68 : decode cX7_house 68 = .ok (.aload_n 0, 1) := by decide +kernel
theorem dX7_house_69 : decode cX7_house 69 = .ok (.iconst 0, 1) := by decide +kernel
theorem dX7_house_70 : decode cX7_house 70 = .ok (.bipush 15, 2) := by decide +kernel
theorem dX7_house_72 : decode cX7_house 72 = .ok (.invokevirtual 127, 3) := by decide +kernel
theorem dX7_house_75 : decode cX7_house 75 = .ok (.iastore, 1) := by decide +kernel
theorem dX7_house_76 : decode cX7_house 76 = .ok (.aload_n 0, 1) := by decide +kernel
theorem dX7_house_77 : decode cX7_house 77 = .ok (.getfield 28, 3) := by decide +kernel
theorem dX7_house_80 : decode cX7_house 80 = .ok (.iconst 1, 1) := by decide +kernel
theorem dX7_house_81 : decode cX7_house 81 = .ok (.aload_n 0, 1) := by decide +kernel
theorem dX7_house_82 : decode cX7_house 82 = .ok (.iconst 1, 1) := by decide +kernel
theorem dX7_house_83 : decode cX7_house 83 = .ok (.bipush 9, 2) := by decide +kernel
theorem dX7_house_85 : decode cX7_house 85 = .ok (.invokevirtual 133, 3) := by decide +kernel
theorem dX7_house_88 : decode cX7_house 88 = .ok (.iastore, 1) := by decide +kernel
theorem dX7_house_89 : decode cX7_house 89 = .ok (.aload_n 0, 1) := by decide +kernel
theorem dX7_house_90 : decode cX7_house 90 = .ok (.aload_n 0, 1) := by decide +kernel
theorem dX7_house_91 : decode cX7_house 91 = .ok (.getfield 107, 3) := by decide +kernel
theorem dX7_house_94 : decode cX7_house 94 = .ok (.iconst 4, 1) := by decide +kernel
theorem dX7_house_95 : decode cX7_house 95 = .ok (.if_icmp .ne 7, 3) := by decide +kernel
theorem dX7_house_98 : decode cX7_house 98 = .ok (.iconst 1, 1) := by decide +kernel
theorem dX7_house_99 : decode cX7_house 99 = .ok (.goto 4, 3) := by decide +kernel
theorem dX7_house_102 : decode cX7_house 102 = .ok (.iconst 0, 1) := by decide +kernel
theorem dX7_house_103 : decode cX7_house 103 = .ok (.iconst 1, 1) := by decide +kernel
theorem dX7_house_104 : decode cX7_house 104 = .ok (.invokevirtual 123, 3) := by decide +kernel
theorem dX7_house_107 : decode cX7_house 107 = .ok (.pop, 1) := by decide +kernel
theorem dX7_house_108 : decode cX7_house 108 = .ok (.aload_n 0, 1) := by decide +kernel
theorem dX7_house_109 : decode cX7_house 109 = .ok (.invokevirtual 113, 3) := by decide +kernel
theorem dX7_house_112 : decode cX7_house 112 = .ok (.ifCond .eq 27, 3) := by decide +kernel
theorem dX7_house_115 : decode cX7_house 115 = .ok (.aload_n 0, 1) := by decide +kernel
theorem dX7_house_116 : decode cX7_house 116 = .ok (.getfield 107, 3) := by decide +kernel
theorem dX7_house_119 : decode cX7_house 119 = .ok (.iconst 1, 1) := by decide +kernel
theorem dX7_house_120 : decode cX7_house 120 = .ok (.if_icmp .ne 19, 3) := by decide +kernel
theorem dX7_house_123 : decode cX7_house 123 = .ok (.aload_n 0, 1) := by decide +kernel
theorem dX7_house_124 : decode cX7_house 124 = .ok (.getfield 104, 3) := by decide +kernel
theorem dX7_house_127 : decode cX7_house 127 = .ok (.bipush 102, 2) := by decide +kernel
theorem dX7_house_129 : decode cX7_house 129 = .ok (.if_icmp .ne 10, 3) := by decide +kernel
theorem dX7_house_132 : decode cX7_house 132 = .ok (.aload_n 0, 1) := by decide +kernel
theorem dX7_house_133 : decode cX7_house 133 = .ok (.invokevirtual 136, 3) := by decide +kernel
theorem dX7_house_136 : decode cX7_house 136 = .ok (.goto (-28), 3) := by decide +kernel
theorem dX7_house_139 : decode cX7_house 139 = .ok (.aload_n 0, 1) := by decide +kernel
theorem dX7_house_140 : decode cX7_house 140 = .ok (.aload_n 0, 1) := by decide +kernel
theorem dX7_house_141 : decode cX7_house 141 = .ok (.getfield 28, 3) := by decide +kernel
theorem dX7_house_144 : decode cX7_house 144 = .ok (.iconst 2, 1) := by decide +kernel
theorem dX7_house_145 : decode cX7_house 145 = .ok (.iaload, 1) := by decide +kernel
theorem dX7_house_146 : decode cX7_house 146 = .ok (.iconst 1, 1) := by decide +kernel
theorem dX7_house_147 : decode cX7_house 147 = .ok (.if_icmp .le 7, 3) := by decide +kernel
theorem dX7_house_150 : decode cX7_house 150 = .ok (.iconst 1, 1) := by decide +kernel
theorem dX7_house_151 : decode cX7_house 151 = .ok (.goto 4, 3) := by decide +kernel
theorem dX7_house_154 : decode cX7_house 154 = .ok (.iconst 0, 1) := by decide +kernel
theorem dX7_house_155 : decode cX7_house 155 = .ok (.invokevirtual 139, 3) := by decide +kernel
theorem dX7_house_158 : decode cX7_house 158 = .ok (.aload_n 0, 1) := by decide +kernel
theorem dX7_house_159 : decode cX7_house 159 = .ok (.invokevirtual 113, 3) := by decide +kernel
theorem dX7_house_162 : decode cX7_house 162 = .ok (.ifCond .eq 28, 3) := by decide +kernel
theorem dX7_house_165 : decode cX7_house 165 = .ok (.aload_n 0, 1) := by decide +kernel
theorem dX7_house_166 : decode cX7_house 166 = .ok (.getfield 107, 3) := by decide +kernel
theorem dX7_house_169 : decode cX7_house 169 = .ok (.iconst 1, 1) := by decide +kernel
theorem dX7_house_170 : decode cX7_house 170 = .ok (.if_icmp .ne 20, 3) := by decide +kernel
theorem dX7_house_173 : decode cX7_house 173 = .ok (.aload_n 0, 1) := by decide +kernel
theorem dX7_house_174 : decode cX7_house 174 = .ok (.getfield 104, 3) := by decide +kernel
theorem dX7_house_177 : decode cX7_house 177 = .ok (.invokestatic 130, 3) := by decide +kernel
theorem dX7_house_180 : decode cX7_house 180 = .ok (.ifCond .le 10, 3) := by decide +kernel
theorem dX7_house_183 : decode cX7_house 183 = .ok (.aload_n 0, 1) := by decide +kernel
theorem dX7_house_184 : decode cX7_house 184 = .ok (.invokevirtual 143, 3) := by decide +kernel
theorem dX7_house_187 : decode cX7_house 187 = .ok (.goto (-29), 3) := by decide +kernel
theorem dX7_house_190 : decode cX7_house 190 = .ok (.aload_n 0, 1) := by decide +kernel
theorem dX7_house_191 : decode cX7_house 191 = .ok (.aload_n 0, 1) := by decide +kernel
theorem dX7_house_192 : decode cX7_house 192 = .ok (.getfield 107, 3) := by decide +kernel
theorem dX7_house_195 : decode cX7_house 195 = .ok (.ifCond .ne 7, 3) := by decide +kernel
theorem dX7_house_198 : decode cX7_house 198 = .ok (.iconst 1, 1) := by decide +kernel
theorem dX7_house_199 : decode cX7_house 199 = .ok (.goto 4, 3) := by decide +kernel
theorem dX7_house_202 : decode cX7_house 202 = .ok (.iconst 0, 1) := by decide +kernel
theorem dX7_house_203 : decode cX7_house 203 = .ok (.invokevirtual 139, 3) := by decide +kernel
theorem dX7_house_206 : decode cX7_house 206 = .ok (.aload_n 0, 1) := by decide +kernel
theorem dX7_house_207 : decode cX7_house 207 = .ok (.iconst 0, 1) := by decide +kernel
theorem dX7_house_208 : decode cX7_house 208 = .ok (.putfield 91, 3) := by decide +kernel
theorem dX7_house_211 : decode cX7_house 211 = .ok (.aload_n 0, 1) := by decide +kernel
theorem dX7_house_212 : decode cX7_house 212 = .ok (.invokevirtual 113, 3) := by decide +kernel
theorem dX7_house_215 : decode cX7_house 215 = .ok (.ifCond .ne 11, 3) := by decide +kernel
theorem dX7_house_218 : decode cX7_house 218 = .ok (.ldc 146, 2) := by decide +kernel
theorem dX7_house_220 : decode cX7_house 220 = .ok (.aload_n 0, 1) := by decide +kernel
theorem dX7_house_221 : decode cX7_house 221 = .ok (.getfield 110, 3) := by decide +kernel
theorem dX7_house_224 : decode cX7_house 224 = .ok (.isub, 1) := by decide +kernel
theorem dX7_house_225 : decode cX7_house 225 = .ok (.ireturn, 1) := by decide +kernel
theorem dX7_house_226 : decode cX7_house 226 = .ok (.aload_n 0, 1) := by decide +kernel
theorem dX7_house_227 : decode cX7_house 227 = .ok (.getfield 28, 3) := by decide +kernel
theorem dX7_house_230 : decode cX7_house 230 = .ok (.iconst 0, 1) := by decide +kernel
theorem dX7_house_231 : decode cX7_house 231 = .ok (.aload_n 0, 1) := by decide +kernel
theorem dX7_house_232 : decode cX7_house 232 = .ok (.getfield 25, 3) := by decide +kernel
theorem dX7_house_235 : decode cX7_house 235 = .ok (.iconst 0, 1) := by decide +kernel
theorem dX7_house_236 : decode cX7_house 236 = .ok (.invokestatic 147, 3) := by decide +kernel
theorem dX7_house_239 : decode cX7_house 239 = .ok (.aload_n 0, 1) := by decide +kernel
theorem dX7_house_240 : decode cX7_house 240 = .ok (.iconst 0, 1) := by decide +kernel
theorem dX7_house_241 : decode cX7_house 241 = .ok (.putfield 151, 3) := by decide +kernel
theorem dX7_house_244 : decode cX7_house 244 = .ok (.aload_n 0, 1) := by decide +kernel
theorem dX7_house_245 : decode cX7_house 245 = .ok (.getfield 25, 3) := by decide +kernel
theorem dX7_house_248 : decode cX7_house 248 = .ok (.iconst 2, 1) := by decide +kernel
theorem dX7_house_249 : decode cX7_house 249 = .ok (.iaload, 1) := by decide +kernel
theorem dX7_house_250 : decode cX7_house 250 = .ok (.ireturn, 1) := by decide +kernel
theorem dX7_fault_0 : decode cX7_fault 0 = .ok (.aload_n 0, 1) := by decide +kernel
theorem dX7_fault_1 : decode cX7_fault 1 = .ok (.getfield 117, 3) := by decide +kernel
theorem dX7_fault_4 : decode cX7_fault 4 = .ok (.ireturn, 1) := by decide +kernel
theorem dX7_isHouse_0 : decode cX7_isHouse 0 = .ok (.aload_n 0, 1) := by decide +kernel
theorem dX7_isHouse_1 : decode cX7_isHouse 1 = .ok (.getfield 25, 3) := by decide +kernel
theorem dX7_isHouse_4 : decode cX7_isHouse 4 = .ok (.iconst 1, 1) := by decide +kernel
theorem dX7_isHouse_5 : decode cX7_isHouse 5 = .ok (.iaload, 1) := by decide +kernel
theorem dX7_isHouse_6 : decode cX7_isHouse 6 = .ok (.ifCond .le 7, 3) := by decide +kernel
theorem dX7_isHouse_9 : decode cX7_isHouse 9 = .ok (.iconst 1, 1) := by decide +kernel
theorem dX7_isHouse_10 : decode cX7_isHouse 10 = .ok (.goto 4, 3) := by decide +kernel
theorem dX7_isHouse_13 : decode cX7_isHouse 13 = .ok (.iconst 0, 1) := by decide +kernel
theorem dX7_isHouse_14 : decode cX7_isHouse 14 = .ok (.ireturn, 1) := by decide +kernel
theorem dX7_isPair_0 : decode cX7_isPair 0 = .ok (.iload_n 1, 1) := by decide +kernel
theorem dX7_isPair_1 : decode cX7_isPair 1 = .ok (.iconst 0, 1) := by decide +kernel
theorem dX7_isPair_2 : decode cX7_isPair 2 = .ok (.aload_n 0, 1) := by decide +kernel
theorem dX7_isPair_3 : decode cX7_isPair 3 = .ok (.getfield 25, 3) := by decide +kernel
theorem dX7_isPair_6 : decode cX7_isPair 6 = .ok (.iconst 3, 1) := by decide +kernel
theorem dX7_isPair_7 : decode cX7_isPair 7 = .ok (.iaload, 1) := by decide +kernel
theorem dX7_isPair_8 : decode cX7_isPair 8 = .ok (.iconst 1, 1) := by decide +kernel
theorem dX7_isPair_9 : decode cX7_isPair 9 = .ok (.isub, 1) := by decide +kernel
theorem dX7_isPair_10 : decode cX7_isPair 10 = .ok (.invokestatic 65, 3) := by decide +kernel
theorem dX7_isPair_13 : decode cX7_isPair 13 = .ok (.ireturn, 1) := by decide +kernel
theorem dX7_isHearth_0 : decode cX7_isHearth 0 = .ok (.iload_n 1, 1) := by decide +kernel
theorem dX7_isHearth_1 : decode cX7_isHearth 1 = .ok (.iconst 0, 1) := by decide +kernel
theorem dX7_isHearth_2 : decode cX7_isHearth 2 = .ok (.aload_n 0, 1) := by decide +kernel
theorem dX7_isHearth_3 : decode cX7_isHearth 3 = .ok (.getfield 25, 3) := by decide +kernel
theorem dX7_isHearth_6 : decode cX7_isHearth 6 = .ok (.iconst 2, 1) := by decide +kernel
theorem dX7_isHearth_7 : decode cX7_isHearth 7 = .ok (.iaload, 1) := by decide +kernel
theorem dX7_isHearth_8 : decode cX7_isHearth 8 = .ok (.iconst 1, 1) := by decide +kernel
theorem dX7_isHearth_9 : decode cX7_isHearth 9 = .ok (.isub, 1) := by decide +kernel
theorem dX7_isHearth_10 : decode cX7_isHearth 10 = .ok (.invokestatic 65, 3) := by decide +kernel
theorem dX7_isHearth_13 : decode cX7_isHearth 13 = .ok (.ireturn, 1) := by decide +kernel
theorem dX7_isWarm_0 : decode cX7_isWarm 0 = .ok (.aload_n 0, 1) := by decide +kernel
theorem dX7_isWarm_1 : decode cX7_isWarm 1 = .ok (.iconst 0, 1) := by decide +kernel
theorem dX7_isWarm_2 : decode cX7_isWarm 2 = .ok (.iaload, 1) := by decide +kernel
theorem dX7_isWarm_3 : decode cX7_isWarm 3 = .ok (.aload_n 0, 1) := by decide +kernel
theorem dX7_isWarm_4 : decode cX7_isWarm 4 = .ok (.iconst 4, 1) := by decide +kernel
theorem dX7_isWarm_5 : decode cX7_isWarm 5 = .ok (.iaload, 1) := by decide +kernel
theorem dX7_isWarm_6 : decode cX7_isWarm 6 = .ok (.iconst 4, 1) := by decide +kernel
theorem dX7_isWarm_7 : decode cX7_isWarm 7 = .ok (.irem, 1) := by decide +kernel
theorem dX7_isWarm_8 : decode cX7_isWarm 8 = .ok (.invokestatic 154, 3) := by decide +kernel
theorem dX7_isWarm_11 : decode cX7_isWarm 11 = .ok (.ireturn, 1) := by decide +kernel
theorem dX7_blows_0 : decode cX7_blows 0 = .ok (.bipush 13, 2) := by decide +kernel
theorem dX7_blows_2 : decode cX7_blows 2 = .ok (.iconst 4, 1) := by decide +kernel
theorem dX7_blows_3 : decode cX7_blows 3 = .ok (.iload_n 1, 1) := by decide +kernel
theorem dX7_blows_4 : decode cX7_blows 4 = .ok (.imul, 1) := by decide +kernel
theorem dX7_blows_5 : decode cX7_blows 5 = .ok (.iadd, 1) := by decide +kernel
theorem dX7_blows_6 : decode cX7_blows 6 = .ok (.istore_n 2, 1) := by decide +kernel
theorem dX7_blows_7 : decode cX7_blows 7 = .ok (.aload_n 0, 1) := by decide +kernel
theorem dX7_blows_8 : decode cX7_blows 8 = .ok (.iload_n 2, 1) := by decide +kernel
theorem dX7_blows_9 : decode cX7_blows 9 = .ok (.iconst 3, 1) := by decide +kernel
theorem dX7_blows_10 : decode cX7_blows 10 = .ok (.iadd, 1) := by decide +kernel
theorem dX7_blows_11 : decode cX7_blows 11 = .ok (.iaload, 1) := by decide +kernel
theorem dX7_blows_12 : decode cX7_blows 12 = .ok (.iconst 1, 1) := by decide +kernel
theorem dX7_blows_13 : decode cX7_blows 13 = .ok (.if_icmp .ne 7, 3) := by decide +kernel
theorem dX7_blows_16 : decode cX7_blows 16 = .ok (.iconst 0, 1) := by decide +kernel
theorem dX7_blows_17 : decode cX7_blows 17 = .ok (.goto 12, 3) := by decide +kernel
theorem dX7_blows_20 : decode cX7_blows 20 = .ok (.iconst 4, 1) := by decide +kernel
theorem dX7_blows_21 : decode cX7_blows 21 = .ok (.aload_n 0, 1) := by decide +kernel
theorem dX7_blows_22 : decode cX7_blows 22 = .ok (.iload_n 2, 1) := by decide +kernel
theorem dX7_blows_23 : decode cX7_blows 23 = .ok (.iconst 1, 1) := by decide +kernel
theorem dX7_blows_24 : decode cX7_blows 24 = .ok (.iadd, 1) := by decide +kernel
theorem dX7_blows_25 : decode cX7_blows 25 = .ok (.iaload, 1) := by decide +kernel
theorem dX7_blows_26 : decode cX7_blows 26 = .ok (.invokestatic 158, 3) := by decide +kernel
theorem dX7_blows_29 : decode cX7_blows 29 = .ok (.ireturn, 1) := by decide +kernel
theorem dX7_keeps_0 : decode cX7_keeps 0 = .ok (.bipush 13, 2) := by decide +kernel
theorem dX7_keeps_2 : decode cX7_keeps 2 = .ok (.iconst 4, 1) := by decide +kernel
theorem dX7_keeps_3 : decode cX7_keeps 3 = .ok (.iload_n 1, 1) := by decide +kernel
theorem dX7_keeps_4 : decode cX7_keeps 4 = .ok (.imul, 1) := by decide +kernel
theorem dX7_keeps_5 : decode cX7_keeps 5 = .ok (.iadd, 1) := by decide +kernel
theorem dX7_keeps_6 : decode cX7_keeps 6 = .ok (.istore_n 2, 1) := by decide +kernel
theorem dX7_keeps_7 : decode cX7_keeps 7 = .ok (.aload_n 0, 1) := by decide +kernel
theorem dX7_keeps_8 : decode cX7_keeps 8 = .ok (.iload_n 2, 1) := by decide +kernel
theorem dX7_keeps_9 : decode cX7_keeps 9 = .ok (.iconst 1, 1) := by decide +kernel
theorem dX7_keeps_10 : decode cX7_keeps 10 = .ok (.iadd, 1) := by decide +kernel
theorem dX7_keeps_11 : decode cX7_keeps 11 = .ok (.iaload, 1) := by decide +kernel
theorem dX7_keeps_12 : decode cX7_keeps 12 = .ok (.istore_n 3, 1) := by decide +kernel
theorem dX7_keeps_13 : decode cX7_keeps 13 = .ok (.aload_n 0, 1) := by decide +kernel
theorem dX7_keeps_14 : decode cX7_keeps 14 = .ok (.invokestatic 161, 3) := by decide +kernel
theorem dX7_keeps_17 : decode cX7_keeps 17 = .ok (.ifCond .eq 7, 3) := by decide +kernel
theorem dX7_keeps_20 : decode cX7_keeps 20 = .ok (.iconst 1, 1) := by decide +kernel
theorem dX7_keeps_21 : decode cX7_keeps 21 = .ok (.goto 4, 3) := by decide +kernel
theorem dX7_keeps_24 : decode cX7_keeps 24 = .ok (.iconst 0, 1) := by decide +kernel
theorem dX7_keeps_25 : decode cX7_keeps 25 = .ok (.istore 4, 2) := by decide +kernel
theorem dX7_keeps_27 : decode cX7_keeps 27 = .ok (.aload_n 0, 1) := by decide +kernel
theorem dX7_keeps_28 : decode cX7_keeps 28 = .ok (.iload_n 2, 1) := by decide +kernel
theorem dX7_keeps_29 : decode cX7_keeps 29 = .ok (.iconst 3, 1) := by decide +kernel
theorem dX7_keeps_30 : decode cX7_keeps 30 = .ok (.iadd, 1) := by decide +kernel
theorem dX7_keeps_31 : decode cX7_keeps 31 = .ok (.iaload, 1) := by decide +kernel
theorem dX7_keeps_32 : decode cX7_keeps 32 = .ok (.ifCond .ne 11, 3) := by decide +kernel
theorem dX7_keeps_35 : decode cX7_keeps 35 = .ok (.iload_n 3, 1) := by decide +kernel
theorem dX7_keeps_36 : decode cX7_keeps 36 = .ok (.aload_n 0, 1) := by decide +kernel
theorem dX7_keeps_37 : decode cX7_keeps 37 = .ok (.iload_n 1, 1) := by decide +kernel
theorem dX7_keeps_38 : decode cX7_keeps 38 = .ok (.invokestatic 165, 3) := by decide +kernel
theorem dX7_keeps_41 : decode cX7_keeps 41 = .ok (.isub, 1) := by decide +kernel
theorem dX7_keeps_42 : decode cX7_keeps 42 = .ok (.ireturn, 1) := by decide +kernel
theorem dX7_keeps_43 : decode cX7_keeps 43 = .ok (.iload_n 3, 1) := by decide +kernel
theorem dX7_keeps_44 : decode cX7_keeps 44 = .ok (.istore 5, 2) := by decide +kernel
theorem dX7_keeps_46 : decode cX7_keeps 46 = .ok (.aload_n 0, 1) := by decide +kernel
theorem dX7_keeps_47 : decode cX7_keeps 47 = .ok (.iload_n 2, 1) := by decide +kernel
theorem dX7_keeps_48 : decode cX7_keeps 48 = .ok (.iaload, 1) := by decide +kernel
theorem dX7_keeps_49 : decode cX7_keeps 49 = .ok (.tableswitch 84 1 4 #[31, 40, 53, 78], 31) := by decide +kernel
theorem dX7_keeps_80 : decode cX7_keeps 80 = .ok (.iload_n 3, 1) := by decide +kernel
theorem dX7_keeps_81 : decode cX7_keeps 81 = .ok (.iload 4, 2) := by decide +kernel
theorem dX7_keeps_83 : decode cX7_keeps 83 = .ok (.isub, 1) := by decide +kernel
theorem dX7_keeps_84 : decode cX7_keeps 84 = .ok (.istore 5, 2) := by decide +kernel
theorem dX7_keeps_86 : decode cX7_keeps 86 = .ok (.goto 58, 3) := by decide +kernel
theorem dX7_keeps_89 : decode cX7_keeps 89 = .ok (.iload_n 3, 1) := by decide +kernel
theorem dX7_keeps_90 : decode cX7_keeps 90 = .ok (.iconst 2, 1) := by decide +kernel
theorem dX7_keeps_91 : decode cX7_keeps 91 = .ok (.iload 4, 2) := by decide +kernel
theorem dX7_keeps_93 : decode cX7_keeps 93 = .ok (.imul, 1) := by decide +kernel
theorem dX7_keeps_94 : decode cX7_keeps 94 = .ok (.isub, 1) := by decide +kernel
theorem dX7_keeps_95 : decode cX7_keeps 95 = .ok (.iconst 1, 1) := by decide +kernel
theorem dX7_keeps_96 : decode cX7_keeps 96 = .ok (.isub, 1) := by decide +kernel
theorem dX7_keeps_97 : decode cX7_keeps 97 = .ok (.istore 5, 2) := by decide +kernel
theorem dX7_keeps_99 : decode cX7_keeps 99 = .ok (.goto 45, 3) := by decide +kernel
theorem dX7_keeps_102 : decode cX7_keeps 102 = .ok (.aload_n 0, 1) := by decide +kernel
theorem dX7_keeps_103 : decode cX7_keeps 103 = .ok (.iconst 5, 1) := by decide +kernel
theorem dX7_keeps_104 : decode cX7_keeps 104 = .ok (.aload_n 0, 1) := by decide +kernel
theorem dX7_keeps_105 : decode cX7_keeps 105 = .ok (.iload_n 2, 1) := by decide +kernel
theorem dX7_keeps_106 : decode cX7_keeps 106 = .ok (.iconst 2, 1) := by decide +kernel
theorem dX7_keeps_107 : decode cX7_keeps 107 = .ok (.iadd, 1) := by decide +kernel
theorem dX7_keeps_108 : decode cX7_keeps 108 = .ok (.iaload, 1) := by decide +kernel
theorem dX7_keeps_109 : decode cX7_keeps 109 = .ok (.iadd, 1) := by decide +kernel
theorem dX7_keeps_110 : decode cX7_keeps 110 = .ok (.iaload, 1) := by decide +kernel
theorem dX7_keeps_111 : decode cX7_keeps 111 = .ok (.ifCond .le 7, 3) := by decide +kernel
theorem dX7_keeps_114 : decode cX7_keeps 114 = .ok (.iload_n 3, 1) := by decide +kernel
theorem dX7_keeps_115 : decode cX7_keeps 115 = .ok (.goto 7, 3) := by decide +kernel
theorem dX7_keeps_118 : decode cX7_keeps 118 = .ok (.iload_n 3, 1) := by decide +kernel
theorem dX7_keeps_119 : decode cX7_keeps 119 = .ok (.iload 4, 2) := by decide +kernel
theorem dX7_keeps_121 : decode cX7_keeps 121 = .ok (.isub, 1) := by decide +kernel
theorem dX7_keeps_122 : decode cX7_keeps 122 = .ok (.istore 5, 2) := by decide +kernel
theorem dX7_keeps_124 : decode cX7_keeps 124 = .ok (.goto 20, 3) := by decide +kernel
theorem dX7_keeps_127 : decode cX7_keeps 127 = .ok (.iload_n 3, 1) := by decide +kernel
theorem dX7_keeps_128 : decode cX7_keeps 128 = .ok (.istore 5, 2) := by decide +kernel
theorem dX7_keeps_130 : decode cX7_keeps 130 = .ok (.goto 14, 3) := by decide +kernel
theorem dX7_keeps_133 : decode cX7_keeps 133 = .ok (.bipush 40, 2) := by decide +kernel
theorem dX7_keeps_135 : decode cX7_keeps 135 = .ok (.iload_n 3, 1) := by decide +kernel
theorem dX7_keeps_136 : decode cX7_keeps 136 = .ok (.iload 4, 2) := by decide +kernel
theorem dX7_keeps_138 : decode cX7_keeps 138 = .ok (.iadd, 1) := by decide +kernel
theorem dX7_keeps_139 : decode cX7_keeps 139 = .ok (.invokestatic 158, 3) := by decide +kernel
theorem dX7_keeps_142 : decode cX7_keeps 142 = .ok (.istore 5, 2) := by decide +kernel
theorem dX7_keeps_144 : decode cX7_keeps 144 = .ok (.iload 5, 2) := by decide +kernel
theorem dX7_keeps_146 : decode cX7_keeps 146 = .ok (.ifCond .ge 7, 3) := by decide +kernel
theorem dX7_keeps_149 : decode cX7_keeps 149 = .ok (.iconst 0, 1) := by decide +kernel
theorem dX7_keeps_150 : decode cX7_keeps 150 = .ok (.goto 5, 3) := by decide +kernel
theorem dX7_keeps_153 : decode cX7_keeps 153 = .ok (.iload 5, 2) := by decide +kernel
theorem dX7_keeps_155 : decode cX7_keeps 155 = .ok (.ireturn, 1) := by decide +kernel
theorem dX7_litOf_0 : decode cX7_litOf 0 = .ok (.iconst 0, 1) := by decide +kernel
theorem dX7_litOf_1 : decode cX7_litOf 1 = .ok (.istore_n 1, 1) := by decide +kernel
theorem dX7_litOf_2 : decode cX7_litOf 2 = .ok (.iconst 0, 1) := by decide +kernel
theorem dX7_litOf_3 : decode cX7_litOf 3 = .ok (.istore_n 2, 1) := by decide +kernel
theorem dX7_litOf_4 : decode cX7_litOf 4 = .ok (.iload_n 2, 1) := by decide +kernel
theorem dX7_litOf_5 : decode cX7_litOf 5 = .ok (.aload_n 0, 1) := by decide +kernel
theorem dX7_litOf_6 : decode cX7_litOf 6 = .ok (.iconst 2, 1) := by decide +kernel
theorem dX7_litOf_7 : decode cX7_litOf 7 = .ok (.iaload, 1) := by decide +kernel
theorem dX7_litOf_8 : decode cX7_litOf 8 = .ok (.if_icmp .ge 27, 3) := by decide +kernel
theorem dX7_litOf_11 : decode cX7_litOf 11 = .ok (.iload_n 1, 1) := by decide +kernel
theorem dX7_litOf_12 : decode cX7_litOf 12 = .ok (.aload_n 0, 1) := by decide +kernel
theorem dX7_litOf_13 : decode cX7_litOf 13 = .ok (.iconst 5, 1) := by decide +kernel
theorem dX7_litOf_14 : decode cX7_litOf 14 = .ok (.iload_n 2, 1) := by decide +kernel
theorem dX7_litOf_15 : decode cX7_litOf 15 = .ok (.iadd, 1) := by decide +kernel
theorem dX7_litOf_16 : decode cX7_litOf 16 = .ok (.iaload, 1) := by decide +kernel
theorem dX7_litOf_17 : decode cX7_litOf 17 = .ok (.ifCond .le 9, 3) := by decide +kernel
theorem dX7_litOf_20 : decode cX7_litOf 20 = .ok (.iconst 1, 1) := by decide +kernel
theorem dX7_litOf_21 : decode cX7_litOf 21 = .ok (.iload_n 2, 1) := by decide +kernel
theorem dX7_litOf_22 : decode cX7_litOf 22 = .ok (.ishl, 1) := by decide +kernel
theorem dX7_litOf_23 : decode cX7_litOf 23 = .ok (.goto 4, 3) := by decide +kernel
theorem dX7_litOf_26 : decode cX7_litOf 26 = .ok (.iconst 0, 1) := by decide +kernel
theorem dX7_litOf_27 : decode cX7_litOf 27 = .ok (.ior, 1) := by decide +kernel
theorem dX7_litOf_28 : decode cX7_litOf 28 = .ok (.istore_n 1, 1) := by decide +kernel
theorem dX7_litOf_29 : decode cX7_litOf 29 = .ok (.iinc 2 1, 3) := by decide +kernel
theorem dX7_litOf_32 : decode cX7_litOf 32 = .ok (.goto (-28), 3) := by decide +kernel
theorem dX7_litOf_35 : decode cX7_litOf 35 = .ok (.iload_n 1, 1) := by decide +kernel
theorem dX7_litOf_36 : decode cX7_litOf 36 = .ok (.ireturn, 1) := by decide +kernel
theorem dX7_pegsOf_0 : decode cX7_pegsOf 0 = .ok (.iconst 0, 1) := by decide +kernel
theorem dX7_pegsOf_1 : decode cX7_pegsOf 1 = .ok (.istore_n 1, 1) := by decide +kernel
theorem dX7_pegsOf_2 : decode cX7_pegsOf 2 = .ok (.iconst 0, 1) := by decide +kernel
theorem dX7_pegsOf_3 : decode cX7_pegsOf 3 = .ok (.istore_n 2, 1) := by decide +kernel
theorem dX7_pegsOf_4 : decode cX7_pegsOf 4 = .ok (.iload_n 2, 1) := by decide +kernel
theorem dX7_pegsOf_5 : decode cX7_pegsOf 5 = .ok (.aload_n 0, 1) := by decide +kernel
theorem dX7_pegsOf_6 : decode cX7_pegsOf 6 = .ok (.iconst 3, 1) := by decide +kernel
theorem dX7_pegsOf_7 : decode cX7_pegsOf 7 = .ok (.iaload, 1) := by decide +kernel
theorem dX7_pegsOf_8 : decode cX7_pegsOf 8 = .ok (.if_icmp .ge 24, 3) := by decide +kernel
theorem dX7_pegsOf_11 : decode cX7_pegsOf 11 = .ok (.iload_n 1, 1) := by decide +kernel
theorem dX7_pegsOf_12 : decode cX7_pegsOf 12 = .ok (.aload_n 0, 1) := by decide +kernel
theorem dX7_pegsOf_13 : decode cX7_pegsOf 13 = .ok (.bipush 13, 2) := by decide +kernel
theorem dX7_pegsOf_15 : decode cX7_pegsOf 15 = .ok (.iconst 4, 1) := by decide +kernel
theorem dX7_pegsOf_16 : decode cX7_pegsOf 16 = .ok (.iload_n 2, 1) := by decide +kernel
theorem dX7_pegsOf_17 : decode cX7_pegsOf 17 = .ok (.imul, 1) := by decide +kernel
theorem dX7_pegsOf_18 : decode cX7_pegsOf 18 = .ok (.iadd, 1) := by decide +kernel
theorem dX7_pegsOf_19 : decode cX7_pegsOf 19 = .ok (.iconst 3, 1) := by decide +kernel
theorem dX7_pegsOf_20 : decode cX7_pegsOf 20 = .ok (.iadd, 1) := by decide +kernel
theorem dX7_pegsOf_21 : decode cX7_pegsOf 21 = .ok (.iaload, 1) := by decide +kernel
theorem dX7_pegsOf_22 : decode cX7_pegsOf 22 = .ok (.iload_n 2, 1) := by decide +kernel
theorem dX7_pegsOf_23 : decode cX7_pegsOf 23 = .ok (.ishl, 1) := by decide +kernel
theorem dX7_pegsOf_24 : decode cX7_pegsOf 24 = .ok (.ior, 1) := by decide +kernel
theorem dX7_pegsOf_25 : decode cX7_pegsOf 25 = .ok (.istore_n 1, 1) := by decide +kernel
theorem dX7_pegsOf_26 : decode cX7_pegsOf 26 = .ok (.iinc 2 1, 3) := by decide +kernel
theorem dX7_pegsOf_29 : decode cX7_pegsOf 29 = .ok (.goto (-25), 3) := by decide +kernel
theorem dX7_pegsOf_32 : decode cX7_pegsOf 32 = .ok (.iload_n 1, 1) := by decide +kernel
theorem dX7_pegsOf_33 : decode cX7_pegsOf 33 = .ok (.ireturn, 1) := by decide +kernel
theorem dX7_isHot_0 : decode cX7_isHot 0 = .ok (.iload_n 2, 1) := by decide +kernel
theorem dX7_isHot_1 : decode cX7_isHot 1 = .ok (.iconst 0, 1) := by decide +kernel
theorem dX7_isHot_2 : decode cX7_isHot 2 = .ok (.aload_n 1, 1) := by decide +kernel
theorem dX7_isHot_3 : decode cX7_isHot 3 = .ok (.iconst 2, 1) := by decide +kernel
theorem dX7_isHot_4 : decode cX7_isHot 4 = .ok (.iaload, 1) := by decide +kernel
theorem dX7_isHot_5 : decode cX7_isHot 5 = .ok (.iconst 1, 1) := by decide +kernel
theorem dX7_isHot_6 : decode cX7_isHot 6 = .ok (.isub, 1) := by decide +kernel
theorem dX7_isHot_7 : decode cX7_isHot 7 = .ok (.invokestatic 65, 3) := by decide +kernel
theorem dX7_isHot_10 : decode cX7_isHot 10 = .ok (.ifCond .eq 18, 3) := by decide +kernel
theorem dX7_isHot_13 : decode cX7_isHot 13 = .ok (.aload_n 0, 1) := by decide +kernel
theorem dX7_isHot_14 : decode cX7_isHot 14 = .ok (.getfield 44, 3) := by decide +kernel
theorem dX7_isHot_17 : decode cX7_isHot 17 = .ok (.iload_n 2, 1) := by decide +kernel
theorem dX7_isHot_18 : decode cX7_isHot 18 = .ok (.iaload, 1) := by decide +kernel
theorem dX7_isHot_19 : decode cX7_isHot 19 = .ok (.bipush 9, 2) := by decide +kernel
theorem dX7_isHot_21 : decode cX7_isHot 21 = .ok (.if_icmp .le 7, 3) := by decide +kernel
theorem dX7_isHot_24 : decode cX7_isHot 24 = .ok (.iconst 1, 1) := by decide +kernel
theorem dX7_isHot_25 : decode cX7_isHot 25 = .ok (.goto 4, 3) := by decide +kernel
theorem dX7_isHot_28 : decode cX7_isHot 28 = .ok (.iconst 0, 1) := by decide +kernel
theorem dX7_isHot_29 : decode cX7_isHot 29 = .ok (.ireturn, 1) := by decide +kernel
theorem dX7_burns_0 : decode cX7_burns 0 = .ok (.iconst 0, 1) := by decide +kernel
theorem dX7_burns_1 : decode cX7_burns 1 = .ok (.istore_n 3, 1) := by decide +kernel
theorem dX7_burns_2 : decode cX7_burns 2 = .ok (.aload_n 0, 1) := by decide +kernel
theorem dX7_burns_3 : decode cX7_burns 3 = .ok (.getfield 44, 3) := by decide +kernel
theorem dX7_burns_6 : decode cX7_burns 6 = .ok (.iload_n 2, 1) := by decide +kernel
theorem dX7_burns_7 : decode cX7_burns 7 = .ok (.iaload, 1) := by decide +kernel
theorem dX7_burns_8 : decode cX7_burns 8 = .ok (.ifCond .le 22, 3) := by decide +kernel
theorem dX7_burns_11 : decode cX7_burns 11 = .ok (.aload_n 0, 1) := by decide +kernel
theorem dX7_burns_12 : decode cX7_burns 12 = .ok (.getfield 44, 3) := by decide +kernel
theorem dX7_burns_15 : decode cX7_burns 15 = .ok (.iload_n 2, 1) := by decide +kernel
theorem dX7_burns_16 : decode cX7_burns 16 = .ok (.iaload, 1) := by decide +kernel
theorem dX7_burns_17 : decode cX7_burns 17 = .ok (.iconst 1, 1) := by decide +kernel
theorem dX7_burns_18 : decode cX7_burns 18 = .ok (.isub, 1) := by decide +kernel
theorem dX7_burns_19 : decode cX7_burns 19 = .ok (.aload_n 0, 1) := by decide +kernel
theorem dX7_burns_20 : decode cX7_burns 20 = .ok (.getfield 47, 3) := by decide +kernel
theorem dX7_burns_23 : decode cX7_burns 23 = .ok (.iload_n 2, 1) := by decide +kernel
theorem dX7_burns_24 : decode cX7_burns 24 = .ok (.iaload, 1) := by decide +kernel
theorem dX7_burns_25 : decode cX7_burns 25 = .ok (.iadd, 1) := by decide +kernel
theorem dX7_burns_26 : decode cX7_burns 26 = .ok (.istore_n 3, 1) := by decide +kernel
theorem dX7_burns_27 : decode cX7_burns 27 = .ok (.goto 49, 3) := by decide +kernel
theorem dX7_burns_30 : decode cX7_burns 30 = .ok (.aload_n 0, 1) := by decide +kernel
theorem dX7_burns_31 : decode cX7_burns 31 = .ok (.getfield 47, 3) := by decide +kernel
theorem dX7_burns_34 : decode cX7_burns 34 = .ok (.iload_n 2, 1) := by decide +kernel
theorem dX7_burns_35 : decode cX7_burns 35 = .ok (.iaload, 1) := by decide +kernel
theorem dX7_burns_36 : decode cX7_burns 36 = .ok (.aload_n 1, 1) := by decide +kernel
theorem dX7_burns_37 : decode cX7_burns 37 = .ok (.iconst 1, 1) := by decide +kernel
theorem dX7_burns_38 : decode cX7_burns 38 = .ok (.iaload, 1) := by decide +kernel
theorem dX7_burns_39 : decode cX7_burns 39 = .ok (.if_icmp .lt 13, 3) := by decide +kernel
theorem dX7_burns_42 : decode cX7_burns 42 = .ok (.aload_n 0, 1) := by decide +kernel
theorem dX7_burns_43 : decode cX7_burns 43 = .ok (.getfield 47, 3) := by decide +kernel
theorem dX7_burns_46 : decode cX7_burns 46 = .ok (.iload_n 2, 1) := by decide +kernel
theorem dX7_burns_47 : decode cX7_burns 47 = .ok (.iaload, 1) := by decide +kernel
theorem dX7_burns_48 : decode cX7_burns 48 = .ok (.istore_n 3, 1) := by decide +kernel
theorem dX7_burns_49 : decode cX7_burns 49 = .ok (.goto 27, 3) := by decide +kernel
theorem dX7_burns_52 : decode cX7_burns 52 = .ok (.aload_n 0, 1) := by decide +kernel
theorem dX7_burns_53 : decode cX7_burns 53 = .ok (.aload_n 1, 1) := by decide +kernel
theorem dX7_burns_54 : decode cX7_burns 54 = .ok (.iload_n 2, 1) := by decide +kernel
theorem dX7_burns_55 : decode cX7_burns 55 = .ok (.iconst 1, 1) := by decide +kernel
theorem dX7_burns_56 : decode cX7_burns 56 = .ok (.isub, 1) := by decide +kernel
theorem dX7_burns_57 : decode cX7_burns 57 = .ok (.invokevirtual 169, 3) := by decide +kernel
theorem dX7_burns_60 : decode cX7_burns 60 = .ok (.ifCond .ne 14, 3) := by decide +kernel
theorem dX7_burns_63 : decode cX7_burns 63 = .ok (.aload_n 0, 1) := by decide +kernel
theorem dX7_burns_64 : decode cX7_burns 64 = .ok (.aload_n 1, 1) := by decide +kernel
theorem dX7_burns_65 : decode cX7_burns 65 = .ok (.iload_n 2, 1) := by decide +kernel
theorem dX7_burns_66 : decode cX7_burns 66 = .ok (.iconst 1, 1) := by decide +kernel
theorem dX7_burns_67 : decode cX7_burns 67 = .ok (.iadd, 1) := by decide +kernel
theorem dX7_burns_68 : decode cX7_burns 68 = .ok (.invokevirtual 169, 3) := by decide +kernel
theorem dX7_burns_71 : decode cX7_burns 71 = .ok (.ifCond .eq 5, 3) := by decide +kernel
theorem dX7_burns_74 : decode cX7_burns 74 = .ok (.iconst 1, 1) := by decide +kernel
theorem dX7_burns_75 : decode cX7_burns 75 = .ok (.istore_n 3, 1) := by decide +kernel
theorem dX7_burns_76 : decode cX7_burns 76 = .ok (.aload_n 1, 1) := by decide +kernel
theorem dX7_burns_77 : decode cX7_burns 77 = .ok (.iconst 5, 1) := by decide +kernel
theorem dX7_burns_78 : decode cX7_burns 78 = .ok (.iload_n 2, 1) := by decide +kernel
theorem dX7_burns_79 : decode cX7_burns 79 = .ok (.iadd, 1) := by decide +kernel
theorem dX7_burns_80 : decode cX7_burns 80 = .ok (.bipush 99, 2) := by decide +kernel
theorem dX7_burns_82 : decode cX7_burns 82 = .ok (.iload_n 3, 1) := by decide +kernel
theorem dX7_burns_83 : decode cX7_burns 83 = .ok (.invokestatic 158, 3) := by decide +kernel
theorem dX7_burns_86 : decode cX7_burns 86 = .ok (.iastore, 1) := by decide +kernel
theorem dX7_burns_87 : decode cX7_burns 87 = .ok (.return_, 1) := by decide +kernel
theorem dX7_passes_0 : decode cX7_passes 0 = .ok (.iconst 0, 1) := by decide +kernel
theorem dX7_passes_1 : decode cX7_passes 1 = .ok (.istore_n 2, 1) := by decide +kernel
theorem dX7_passes_2 : decode cX7_passes 2 = .ok (.iload_n 2, 1) := by decide +kernel
theorem dX7_passes_3 : decode cX7_passes 3 = .ok (.bipush 8, 2) := by decide +kernel
theorem dX7_passes_5 : decode cX7_passes 5 = .ok (.if_icmp .ge 27, 3) := by decide +kernel
theorem dX7_passes_8 : decode cX7_passes 8 = .ok (.aload_n 0, 1) := by decide +kernel
theorem dX7_passes_9 : decode cX7_passes 9 = .ok (.getfield 44, 3) := by decide +kernel
theorem dX7_passes_12 : decode cX7_passes 12 = .ok (.iload_n 2, 1) := by decide +kernel
theorem dX7_passes_13 : decode cX7_passes 13 = .ok (.aload_n 1, 1) := by decide +kernel
theorem dX7_passes_14 : decode cX7_passes 14 = .ok (.iconst 5, 1) := by decide +kernel
theorem dX7_passes_15 : decode cX7_passes 15 = .ok (.iload_n 2, 1) := by decide +kernel
theorem dX7_passes_16 : decode cX7_passes 16 = .ok (.iadd, 1) := by decide +kernel
theorem dX7_passes_17 : decode cX7_passes 17 = .ok (.iaload, 1) := by decide +kernel
theorem dX7_passes_18 : decode cX7_passes 18 = .ok (.iastore, 1) := by decide +kernel
theorem dX7_passes_19 : decode cX7_passes 19 = .ok (.aload_n 0, 1) := by decide +kernel
theorem dX7_passes_20 : decode cX7_passes 20 = .ok (.getfield 47, 3) := by decide +kernel
theorem dX7_passes_23 : decode cX7_passes 23 = .ok (.iload_n 2, 1) := by decide +kernel
theorem dX7_passes_24 : decode cX7_passes 24 = .ok (.iconst 0, 1) := by decide +kernel
theorem dX7_passes_25 : decode cX7_passes 25 = .ok (.iastore, 1) := by decide +kernel
theorem dX7_passes_26 : decode cX7_passes 26 = .ok (.iinc 2 1, 3) := by decide +kernel
theorem dX7_passes_29 : decode cX7_passes 29 = .ok (.goto (-27), 3) := by decide +kernel
theorem dX7_passes_32 : decode cX7_passes 32 = .ok (.iconst 0, 1) := by decide +kernel
theorem dX7_passes_33 : decode cX7_passes 33 = .ok (.istore_n 2, 1) := by decide +kernel
theorem dX7_passes_34 : decode cX7_passes 34 = .ok (.iload_n 2, 1) := by decide +kernel
theorem dX7_passes_35 : decode cX7_passes 35 = .ok (.aload_n 1, 1) := by decide +kernel
theorem dX7_passes_36 : decode cX7_passes 36 = .ok (.iconst 3, 1) := by decide +kernel
theorem dX7_passes_37 : decode cX7_passes 37 = .ok (.iaload, 1) := by decide +kernel
theorem dX7_passes_38 : decode cX7_passes 38 = .ok (.if_icmp .ge 64, 3) := by decide +kernel
theorem dX7_passes_41 : decode cX7_passes 41 = .ok (.bipush 13, 2) := by decide +kernel
theorem dX7_passes_43 : decode cX7_passes 43 = .ok (.iconst 4, 1) := by decide +kernel
theorem dX7_passes_44 : decode cX7_passes 44 = .ok (.iload_n 2, 1) := by decide +kernel
theorem dX7_passes_45 : decode cX7_passes 45 = .ok (.imul, 1) := by decide +kernel
theorem dX7_passes_46 : decode cX7_passes 46 = .ok (.iadd, 1) := by decide +kernel
theorem dX7_passes_47 : decode cX7_passes 47 = .ok (.istore_n 3, 1) := by decide +kernel
theorem dX7_passes_48 : decode cX7_passes 48 = .ok (.aload_n 1, 1) := by decide +kernel
theorem dX7_passes_49 : decode cX7_passes 49 = .ok (.iload_n 2, 1) := by decide +kernel
theorem dX7_passes_50 : decode cX7_passes 50 = .ok (.invokestatic 173, 3) := by decide +kernel
theorem dX7_passes_53 : decode cX7_passes 53 = .ok (.istore 4, 2) := by decide +kernel
theorem dX7_passes_55 : decode cX7_passes 55 = .ok (.aload_n 0, 1) := by decide +kernel
theorem dX7_passes_56 : decode cX7_passes 56 = .ok (.getfield 47, 3) := by decide +kernel
theorem dX7_passes_59 : decode cX7_passes 59 = .ok (.aload_n 1, 1) := by decide +kernel
theorem dX7_passes_60 : decode cX7_passes 60 = .ok (.iload_n 3, 1) := by decide +kernel
theorem dX7_passes_61 : decode cX7_passes 61 = .ok (.iconst 2, 1) := by decide +kernel
theorem dX7_passes_62 : decode cX7_passes 62 = .ok (.iadd, 1) := by decide +kernel
theorem dX7_passes_63 : decode cX7_passes 63 = .ok (.iaload, 1) := by decide +kernel
theorem dX7_passes_64 : decode cX7_passes 64 = .ok (.dup2, 1) := by decide +kernel
theorem dX7_passes_65 : decode cX7_passes 65 = .ok (.iaload, 1) := by decide +kernel
theorem dX7_passes_66 : decode cX7_passes 66 = .ok (.aload_n 1, 1) := by decide +kernel
theorem dX7_passes_67 : decode cX7_passes 67 = .ok (.iload_n 3, 1) := by decide +kernel
theorem dX7_passes_68 : decode cX7_passes 68 = .ok (.iconst 3, 1) := by decide +kernel
theorem dX7_passes_69 : decode cX7_passes 69 = .ok (.iadd, 1) := by decide +kernel
theorem dX7_passes_70 : decode cX7_passes 70 = .ok (.iaload, 1) := by decide +kernel
theorem dX7_passes_71 : decode cX7_passes 71 = .ok (.iconst 1, 1) := by decide +kernel
theorem dX7_passes_72 : decode cX7_passes 72 = .ok (.if_icmp .ne 7, 3) := by decide +kernel
theorem dX7_passes_75 : decode cX7_passes 75 = .ok (.iconst 0, 1) := by decide +kernel
theorem dX7_passes_76 : decode cX7_passes 76 = .ok (.goto 11, 3) := by decide +kernel
theorem dX7_passes_79 : decode cX7_passes 79 = .ok (.aload_n 1, 1) := by decide +kernel
theorem dX7_passes_80 : decode cX7_passes 80 = .ok (.iload_n 3, 1) := by decide +kernel
theorem dX7_passes_81 : decode cX7_passes 81 = .ok (.iconst 1, 1) := by decide +kernel
theorem dX7_passes_82 : decode cX7_passes 82 = .ok (.iadd, 1) := by decide +kernel
theorem dX7_passes_83 : decode cX7_passes 83 = .ok (.iaload, 1) := by decide +kernel
theorem dX7_passes_84 : decode cX7_passes 84 = .ok (.iload 4, 2) := by decide +kernel
theorem dX7_passes_86 : decode cX7_passes 86 = .ok (.isub, 1) := by decide +kernel
theorem dX7_passes_87 : decode cX7_passes 87 = .ok (.iadd, 1) := by decide +kernel
theorem dX7_passes_88 : decode cX7_passes 88 = .ok (.iastore, 1) := by decide +kernel
theorem dX7_passes_89 : decode cX7_passes 89 = .ok (.aload_n 1, 1) := by decide +kernel
theorem dX7_passes_90 : decode cX7_passes 90 = .ok (.iload_n 3, 1) := by decide +kernel
theorem dX7_passes_91 : decode cX7_passes 91 = .ok (.iconst 1, 1) := by decide +kernel
theorem dX7_passes_92 : decode cX7_passes 92 = .ok (.iadd, 1) := by decide +kernel
theorem dX7_passes_93 : decode cX7_passes 93 = .ok (.iload 4, 2) := by decide +kernel
theorem dX7_passes_95 : decode cX7_passes 95 = .ok (.iastore, 1) := by decide +kernel
theorem dX7_passes_96 : decode cX7_passes 96 = .ok (.iinc 2 1, 3) := by decide +kernel
theorem dX7_passes_99 : decode cX7_passes 99 = .ok (.goto (-65), 3) := by decide +kernel
theorem dX7_passes_102 : decode cX7_passes 102 = .ok (.iconst 0, 1) := by decide +kernel
theorem dX7_passes_103 : decode cX7_passes 103 = .ok (.istore_n 2, 1) := by decide +kernel
theorem dX7_passes_104 : decode cX7_passes 104 = .ok (.iload_n 2, 1) := by decide +kernel
theorem dX7_passes_105 : decode cX7_passes 105 = .ok (.aload_n 1, 1) := by decide +kernel
theorem dX7_passes_106 : decode cX7_passes 106 = .ok (.iconst 2, 1) := by decide +kernel
theorem dX7_passes_107 : decode cX7_passes 107 = .ok (.iaload, 1) := by decide +kernel
theorem dX7_passes_108 : decode cX7_passes 108 = .ok (.if_icmp .ge 15, 3) := by decide +kernel
theorem dX7_passes_111 : decode cX7_passes 111 = .ok (.aload_n 0, 1) := by decide +kernel
theorem dX7_passes_112 : decode cX7_passes 112 = .ok (.aload_n 1, 1) := by decide +kernel
theorem dX7_passes_113 : decode cX7_passes 113 = .ok (.iload_n 2, 1) := by decide +kernel
theorem dX7_passes_114 : decode cX7_passes 114 = .ok (.invokevirtual 176, 3) := by decide +kernel
theorem dX7_passes_117 : decode cX7_passes 117 = .ok (.iinc 2 1, 3) := by decide +kernel
theorem dX7_passes_120 : decode cX7_passes 120 = .ok (.goto (-16), 3) := by decide +kernel
theorem dX7_passes_123 : decode cX7_passes 123 = .ok (.aload_n 1, 1) := by decide +kernel
theorem dX7_passes_124 : decode cX7_passes 124 = .ok (.iconst 4, 1) := by decide +kernel
theorem dX7_passes_125 : decode cX7_passes 125 = .ok (.dup2, 1) := by decide +kernel
theorem dX7_passes_126 : decode cX7_passes 126 = .ok (.iaload, 1) := by decide +kernel
theorem dX7_passes_127 : decode cX7_passes 127 = .ok (.iconst 1, 1) := by decide +kernel
theorem dX7_passes_128 : decode cX7_passes 128 = .ok (.iadd, 1) := by decide +kernel
theorem dX7_passes_129 : decode cX7_passes 129 = .ok (.iastore, 1) := by decide +kernel
theorem dX7_passes_130 : decode cX7_passes 130 = .ok (.return_, 1) := by decide +kernel
theorem dX7_notes_0 : decode cX7_notes 0 = .ok (.aload_n 0, 1) := by decide +kernel
theorem dX7_notes_1 : decode cX7_notes 1 = .ok (.getfield 151, 3) := by decide +kernel
theorem dX7_notes_4 : decode cX7_notes 4 = .ok (.bipush 24, 2) := by decide +kernel
theorem dX7_notes_6 : decode cX7_notes 6 = .ok (.if_icmp .ne 43, 3) := by decide +kernel
theorem dX7_notes_9 : decode cX7_notes 9 = .ok (.iconst 0, 1) := by decide +kernel
theorem dX7_notes_10 : decode cX7_notes 10 = .ok (.istore_n 1, 1) := by decide +kernel
theorem dX7_notes_11 : decode cX7_notes 11 = .ok (.iload_n 1, 1) := by decide +kernel
theorem dX7_notes_12 : decode cX7_notes 12 = .ok (.sipush 943, 3) := by decide +kernel
theorem dX7_notes_15 : decode cX7_notes 15 = .ok (.if_icmp .ge 24, 3) := by decide +kernel
theorem dX7_notes_18 : decode cX7_notes 18 = .ok (.aload_n 0, 1) := by decide +kernel
theorem dX7_notes_19 : decode cX7_notes 19 = .ok (.getfield 34, 3) := by decide +kernel
theorem dX7_notes_22 : decode cX7_notes 22 = .ok (.iload_n 1, 1) := by decide +kernel
theorem dX7_notes_23 : decode cX7_notes 23 = .ok (.aload_n 0, 1) := by decide +kernel
theorem dX7_notes_24 : decode cX7_notes 24 = .ok (.getfield 34, 3) := by decide +kernel
theorem dX7_notes_27 : decode cX7_notes 27 = .ok (.iload_n 1, 1) := by decide +kernel
theorem dX7_notes_28 : decode cX7_notes 28 = .ok (.bipush 41, 2) := by decide +kernel
theorem dX7_notes_30 : decode cX7_notes 30 = .ok (.iadd, 1) := by decide +kernel
theorem dX7_notes_31 : decode cX7_notes 31 = .ok (.iaload, 1) := by decide +kernel
theorem dX7_notes_32 : decode cX7_notes 32 = .ok (.iastore, 1) := by decide +kernel
theorem dX7_notes_33 : decode cX7_notes 33 = .ok (.iinc 1 1, 3) := by decide +kernel
theorem dX7_notes_36 : decode cX7_notes 36 = .ok (.goto (-25), 3) := by decide +kernel
theorem dX7_notes_39 : decode cX7_notes 39 = .ok (.aload_n 0, 1) := by decide +kernel
theorem dX7_notes_40 : decode cX7_notes 40 = .ok (.dup, 1) := by decide +kernel
theorem dX7_notes_41 : decode cX7_notes 41 = .ok (.getfield 151, 3) := by decide +kernel
theorem dX7_notes_44 : decode cX7_notes 44 = .ok (.iconst 1, 1) := by decide +kernel
theorem dX7_notes_45 : decode cX7_notes 45 = .ok (.isub, 1) := by decide +kernel
theorem dX7_notes_46 : decode cX7_notes 46 = .ok (.putfield 151, 3) := by decide +kernel
theorem dX7_notes_49 : decode cX7_notes 49 = .ok (.aload_n 0, 1) := by decide +kernel
theorem dX7_notes_50 : decode cX7_notes 50 = .ok (.getfield 25, 3) := by decide +kernel
theorem dX7_notes_53 : decode cX7_notes 53 = .ok (.iconst 0, 1) := by decide +kernel
theorem dX7_notes_54 : decode cX7_notes 54 = .ok (.aload_n 0, 1) := by decide +kernel
theorem dX7_notes_55 : decode cX7_notes 55 = .ok (.getfield 34, 3) := by decide +kernel
theorem dX7_notes_58 : decode cX7_notes 58 = .ok (.bipush 41, 2) := by decide +kernel
theorem dX7_notes_60 : decode cX7_notes 60 = .ok (.aload_n 0, 1) := by decide +kernel
theorem dX7_notes_61 : decode cX7_notes 61 = .ok (.getfield 151, 3) := by decide +kernel
theorem dX7_notes_64 : decode cX7_notes 64 = .ok (.imul, 1) := by decide +kernel
theorem dX7_notes_65 : decode cX7_notes 65 = .ok (.invokestatic 147, 3) := by decide +kernel
theorem dX7_notes_68 : decode cX7_notes 68 = .ok (.aload_n 0, 1) := by decide +kernel
theorem dX7_notes_69 : decode cX7_notes 69 = .ok (.dup, 1) := by decide +kernel
theorem dX7_notes_70 : decode cX7_notes 70 = .ok (.getfield 151, 3) := by decide +kernel
theorem dX7_notes_73 : decode cX7_notes 73 = .ok (.iconst 1, 1) := by decide +kernel
theorem dX7_notes_74 : decode cX7_notes 74 = .ok (.iadd, 1) := by decide +kernel
theorem dX7_notes_75 : decode cX7_notes 75 = .ok (.putfield 151, 3) := by decide +kernel
theorem dX7_notes_78 : decode cX7_notes 78 = .ok (.return_, 1) := by decide +kernel
theorem dX7_days_0 : decode cX7_days 0 = .ok (.aload_n 0, 1) := by decide +kernel
theorem dX7_days_1 : decode cX7_days 1 = .ok (.invokevirtual 180, 3) := by decide +kernel
theorem dX7_days_4 : decode cX7_days 4 = .ok (.ifCond .ne 6, 3) := by decide +kernel
theorem dX7_days_7 : decode cX7_days 7 = .ok (.ldc 183, 2) := by decide +kernel
theorem dX7_days_9 : decode cX7_days 9 = .ok (.ireturn, 1) := by decide +kernel
theorem dX7_days_10 : decode cX7_days 10 = .ok (.iload_n 1, 1) := by decide +kernel
theorem dX7_days_11 : decode cX7_days 11 = .ok (.iconst 1, 1) := by decide +kernel
theorem dX7_days_12 : decode cX7_days 12 = .ok (.bipush 24, 2) := by decide +kernel
theorem dX7_days_14 : decode cX7_days 14 = .ok (.invokestatic 65, 3) := by decide +kernel
theorem dX7_days_17 : decode cX7_days 17 = .ok (.ifCond .ne 6, 3) := by decide +kernel
theorem dX7_days_20 : decode cX7_days 20 = .ok (.ldc 73, 2) := by decide +kernel
theorem dX7_days_22 : decode cX7_days 22 = .ok (.ireturn, 1) := by decide +kernel
theorem dX7_days_23 : decode cX7_days 23 = .ok (.aload_n 0, 1) := by decide +kernel
theorem dX7_days_24 : decode cX7_days 24 = .ok (.getfield 25, 3) := by decide +kernel
theorem dX7_days_27 : decode cX7_days 27 = .ok (.iconst 4, 1) := by decide +kernel
theorem dX7_days_28 : decode cX7_days 28 = .ok (.iaload, 1) := by decide +kernel
theorem dX7_days_29 : decode cX7_days 29 = .ok (.iload_n 1, 1) := by decide +kernel
theorem dX7_days_30 : decode cX7_days 30 = .ok (.iadd, 1) := by decide +kernel
theorem dX7_days_31 : decode cX7_days 31 = .ok (.sipush 9999, 3) := by decide +kernel
theorem dX7_days_34 : decode cX7_days 34 = .ok (.if_icmp .le 6, 3) := by decide +kernel
theorem dX7_days_37 : decode cX7_days 37 = .ok (.ldc 94, 2) := by decide +kernel
theorem dX7_days_39 : decode cX7_days 39 = .ok (.ireturn, 1) := by decide +kernel
theorem dX7_days_40 : decode cX7_days 40 = .ok (.iconst 0, 1) := by decide +kernel
theorem dX7_days_41 : decode cX7_days 41 = .ok (.istore_n 2, 1) := by decide +kernel
