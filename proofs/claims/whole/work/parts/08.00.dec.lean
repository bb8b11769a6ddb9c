theorem dX0_init_0 : decode cX0_init 0 = .ok (.aload_n 0, 1) := by decide +kernel
theorem dX0_init_1 : decode cX0_init 1 = .ok (.invokespecial 1, 3) := by decide +kernel
theorem dX0_init_4 : decode cX0_init 4 = .ok (.aload_n 0, 1) := by decide +kernel
theorem dX0_init_5 : decode cX0_init 5 = .ok (.bipush 24, 2) := by decide +kernel
theorem dX0_init_7 : decode cX0_init 7 = .ok (.anewarray 9, 3) := by decide +kernel
theorem dX0_init_10 : decode cX0_init 10 = .ok (.putfield 11, 3) := by decide +kernel
theorem dX0_init_13 : decode cX0_init 13 = .ok (.iconst 0, 1) := by decide +kernel
theorem dX0_init_14 : decode cX0_init 14 = .ok (.istore_n 1, 1) := by decide +kernel
theorem dX0_init_15 : decode cX0_init 15 = .ok (.iload_n 1, 1) := by decide +kernel
theorem dX0_init_16 : decode cX0_init 16 = .ok (.bipush 24, 2) := by decide +kernel
theorem dX0_init_18 : decode cX0_init 18 = .ok (.if_icmp .ge 22, 3) := by decide +kernel
theorem dX0_init_21 : decode cX0_init 21 = .ok (.aload_n 0, 1) := by decide +kernel
theorem dX0_init_22 : decode cX0_init 22 = .ok (.getfield 11, 3) := by decide +kernel
theorem dX0_init_25 : decode cX0_init 25 = .ok (.iload_n 1, 1) := by decide +kernel
theorem dX0_init_26 : decode cX0_init 26 = .ok (.new 9, 3) := by decide +kernel
theorem dX0_init_29 : decode cX0_init 29 = .ok (.dup, 1) := by decide +kernel
theorem dX0_init_30 : decode cX0_init 30 = .ok (.invokespecial 15, 3) := by decide +kernel
theorem dX0_init_33 : decode cX0_init 33 = .ok (.aastore, 1) := by decide +kernel
theorem dX0_init_34 : decode cX0_init 34 = .ok (.iinc 1 1, 3) := by decide +kernel
theorem dX0_init_37 : decode cX0_init 37 = .ok (.goto (-22), 3) := by decide +kernel
theorem dX0_init_40 : decode cX0_init 40 = .ok (.aload_n 0, 1) := by decide +kernel
theorem dX0_init_41 : decode cX0_init 41 = .ok (.iconst 0, 1) := by decide +kernel
theorem dX0_init_42 : decode cX0_init 42 = .ok (.putfield 16, 3) := by decide +kernel
theorem dX0_init_45 : decode cX0_init 45 = .ok (.aload_n 0, 1) := by decide +kernel
theorem dX0_init_46 : decode cX0_init 46 = .ok (.iconst 0, 1) := by decide +kernel
theorem dX0_init_47 : decode cX0_init 47 = .ok (.putfield 20, 3) := by decide +kernel
theorem dX0_init_50 : decode cX0_init 50 = .ok (.return_, 1) := by decide +kernel
theorem dX0_keep_0 : decode cX0_keep 0 = .ok (.aload_n 0, 1) := by decide +kernel
theorem dX0_keep_1 : decode cX0_keep 1 = .ok (.getfield 11, 3) := by decide +kernel
theorem dX0_keep_4 : decode cX0_keep 4 = .ok (.aload_n 0, 1) := by decide +kernel
theorem dX0_keep_5 : decode cX0_keep 5 = .ok (.getfield 16, 3) := by decide +kernel
theorem dX0_keep_8 : decode cX0_keep 8 = .ok (.aaload, 1) := by decide +kernel
theorem dX0_keep_9 : decode cX0_keep 9 = .ok (.aload_n 1, 1) := by decide +kernel
theorem dX0_keep_10 : decode cX0_keep 10 = .ok (.invokevirtual 23, 3) := by decide +kernel
theorem dX0_keep_13 : decode cX0_keep 13 = .ok (.aload_n 0, 1) := by decide +kernel
theorem dX0_keep_14 : decode cX0_keep 14 = .ok (.aload_n 0, 1) := by decide +kernel
theorem dX0_keep_15 : decode cX0_keep 15 = .ok (.getfield 16, 3) := by decide +kernel
theorem dX0_keep_18 : decode cX0_keep 18 = .ok (.iconst 1, 1) := by decide +kernel
theorem dX0_keep_19 : decode cX0_keep 19 = .ok (.iadd, 1) := by decide +kernel
theorem dX0_keep_20 : decode cX0_keep 20 = .ok (.bipush 24, 2) := by decide +kernel
theorem dX0_keep_22 : decode cX0_keep 22 = .ok (.irem, 1) := by decide +kernel
theorem dX0_keep_23 : decode cX0_keep 23 = .ok (.putfield 16, 3) := by decide +kernel
theorem dX0_keep_26 : decode cX0_keep 26 = .ok (.aload_n 0, 1) := by decide +kernel
theorem dX0_keep_27 : decode cX0_keep 27 = .ok (.aload_n 0, 1) := by decide +kernel
theorem dX0_keep_28 : decode cX0_keep 28 = .ok (.getfield 20, 3) := by decide +kernel
theorem dX0_keep_31 : decode cX0_keep 31 = .ok (.iconst 1, 1) := by decide +kernel
theorem dX0_keep_32 : decode cX0_keep 32 = .ok (.iadd, 1) := by decide +kernel
theorem dX0_keep_33 : decode cX0_keep 33 = .ok (.bipush 24, 2) := by decide +kernel
theorem dX0_keep_35 : decode cX0_keep 35 = .ok (.invokestatic 27, 3) := by decide +kernel
theorem dX0_keep_38 : decode cX0_keep 38 = .ok (.putfield 20, 3) := by decide +kernel
theorem dX0_keep_41 : decode cX0_keep 41 = .ok (.return_, 1) := by decide +kernel
theorem dX0_bringBack_0 : decode cX0_bringBack 0 = .ok (.aload_n 0, 1) := by decide +kernel
theorem dX0_bringBack_1 : decode cX0_bringBack 1 = .ok (.aload_n 0, 1) := by decide +kernel
theorem dX0_bringBack_2 : decode cX0_bringBack 2 = .ok (.getfield 16, 3) := by decide +kernel
theorem dX0_bringBack_5 : decode cX0_bringBack 5 = .ok (.bipush 24, 2) := by decide +kernel
theorem dX0_bringBack_7 : decode cX0_bringBack 7 = .ok (.iadd, 1) := by decide +kernel
theorem dX0_bringBack_8 : decode cX0_bringBack 8 = .ok (.iconst 1, 1) := by decide +kernel
theorem dX0_bringBack_9 : decode cX0_bringBack 9 = .ok (.isub, 1) := by decide +kernel
theorem dX0_bringBack_10 : decode cX0_bringBack 10 = .ok (.bipush 24, 2) := by decide +kernel
theorem dX0_bringBack_12 : decode cX0_bringBack 12 = .ok (.irem, 1) := by decide +kernel
theorem dX0_bringBack_13 : decode cX0_bringBack 13 = .ok (.putfield 16, 3) := by decide +kernel
theorem dX0_bringBack_16 : decode cX0_bringBack 16 = .ok (.aload_n 1, 1) := by decide +kernel
theorem dX0_bringBack_17 : decode cX0_bringBack 17 = .ok (.aload_n 0, 1) := by decide +kernel
theorem dX0_bringBack_18 : decode cX0_bringBack 18 = .ok (.getfield 11, 3) := by decide +kernel
theorem dX0_bringBack_21 : decode cX0_bringBack 21 = .ok (.aload_n 0, 1) := by decide +kernel
theorem dX0_bringBack_22 : decode cX0_bringBack 22 = .ok (.getfield 16, 3) := by decide +kernel
theorem dX0_bringBack_25 : decode cX0_bringBack 25 = .ok (.aaload, 1) := by decide +kernel
theorem dX0_bringBack_26 : decode cX0_bringBack 26 = .ok (.invokevirtual 23, 3) := by decide +kernel
theorem dX0_bringBack_29 : decode cX0_bringBack 29 = .ok (.aload_n 0, 1) := by decide +kernel
theorem dX0_bringBack_30 : decode cX0_bringBack 30 = .ok (.dup, 1) := by decide +kernel
theorem dX0_bringBack_31 : decode cX0_bringBack 31 = .ok (.getfield 20, 3) := by decide +kernel
theorem dX0_bringBack_34 : decode cX0_bringBack 34 = .ok (.iconst 1, 1) := by decide +kernel
theorem dX0_bringBack_35 : decode cX0_bringBack 35 = .ok (.isub, 1) := by decide +kernel
theorem dX0_bringBack_36 : decode cX0_bringBack 36 = .ok (.putfield 20, 3) := by decide +kernel
theorem dX0_bringBack_39 : decode cX0_bringBack 39 = .ok (.return_, 1) := by decide +kernel
theorem dX0_forgetAll_0 : decode cX0_forgetAll 0 = .ok (.aload_n 0, 1) := by decide +kernel
theorem dX0_forgetAll_1 : decode cX0_forgetAll 1 = .ok (.iconst 0, 1) := by decide +kernel
theorem dX0_forgetAll_2 : decode cX0_forgetAll 2 = .ok (.putfield 20, 3) := by decide +kernel
theorem dX0_forgetAll_5 : decode cX0_forgetAll 5 = .ok (.return_, 1) := by decide +kernel
theorem dX1_init_0 : decode cX1_init 0 = .ok (.aload_n 0, 1) := by decide +kernel
theorem dX1_init_1 : decode cX1_init 1 = .ok (.invokespecial 1, 3) := by decide +kernel
theorem dX1_init_4 : decode cX1_init 4 = .ok (.aload_n 0, 1) := by decide +kernel
theorem dX1_init_5 : decode cX1_init 5 = .ok (.bipush 16, 2) := by decide +kernel
theorem dX1_init_7 : decode cX1_init 7 = .ok (.newarray .int, 2) := by decide +kernel
theorem dX1_init_9 : decode cX1_init 9 = .ok (.putfield 9, 3) := by decide +kernel
theorem dX1_init_12 : decode cX1_init 12 = .ok (.aload_n 0, 1) := by decide +kernel
theorem dX1_init_13 : decode cX1_init 13 = .ok (.iconst 0, 1) := by decide +kernel
theorem dX1_init_14 : decode cX1_init 14 = .ok (.putfield 13, 3) := by decide +kernel
theorem dX1_init_17 : decode cX1_init 17 = .ok (.return_, 1) := by decide +kernel
theorem dX1_answer_0 : decode cX1_answer 0 = .ok (.aload_n 0, 1) := by decide +kernel
theorem dX1_answer_1 : decode cX1_answer 1 = .ok (.iconst 0, 1) := by decide +kernel
theorem dX1_answer_2 : decode cX1_answer 2 = .ok (.putfield 13, 3) := by decide +kernel
theorem dX1_answer_5 : decode cX1_answer 5 = .ok (.aload_n 1, 1) := by decide +kernel
theorem dX1_answer_6 : decode cX1_answer 6 = .ok (.getfield 17, 3) := by decide +kernel
theorem dX1_answer_9 : decode cX1_answer 9 = .ok (.iload_n 2, 1) := by decide +kernel
theorem dX1_answer_10 : decode cX1_answer 10 = .ok (.iaload, 1) := by decide +kernel
theorem dX1_answer_11 : decode cX1_answer 11 = .ok (.istore 4, 2) := by decide +kernel
theorem dX1_answer_13 : decode cX1_answer 13 = .ok (.aload_n 0, 1) := by decide +kernel
theorem dX1_answer_14 : decode cX1_answer 14 = .ok (.iload_n 3, 1) := by decide +kernel
theorem dX1_answer_15 : decode cX1_answer 15 = .ok (.ifCond .ne 12, 3) := by decide +kernel
theorem dX1_answer_18 : decode cX1_answer 18 = .ok (.getstatic 22, 3) := by decide +kernel
theorem dX1_answer_21 : decode cX1_answer 21 = .ok (.iload 4, 2) := by decide +kernel
theorem dX1_answer_23 : decode cX1_answer 23 = .ok (.iaload, 1) := by decide +kernel
theorem dX1_answer_24 : decode cX1_answer 24 = .ok (.goto 9, 3) := by decide +kernel
theorem dX1_answer_27 : decode cX1_answer 27 = .ok (.getstatic 25, 3) := by decide +kernel
theorem dX1_answer_30 : decode cX1_answer 30 = .ok (.iload 4, 2) := by decide +kernel
theorem dX1_answer_32 : decode cX1_answer 32 = .ok (.iaload, 1) := by decide +kernel
theorem dX1_answer_33 : decode cX1_answer 33 = .ok (.aload_n 1, 1) := by decide +kernel
theorem dX1_answer_34 : decode cX1_answer 34 = .ok (.iload_n 2, 1) := by decide +kernel
theorem dX1_answer_35 : decode cX1_answer 35 = .ok (.iconst 0, 1) := by decide +kernel
theorem dX1_answer_36 : decode cX1_answer 36 = .ok (.invokevirtual 28, 3) := by decide +kernel
theorem dX1_answer_39 : decode cX1_answer 39 = .ok (.ireturn, 1) := by decide +kernel
theorem dX1_give_0 : decode cX1_give 0 = .ok (.iload 4, 2) := by decide +kernel
theorem dX1_give_2 : decode cX1_give 2 = .ok (.bipush 16, 2) := by decide +kernel
theorem dX1_give_4 : decode cX1_give 4 = .ok (.if_icmp .le 5, 3) := by decide +kernel
theorem dX1_give_7 : decode cX1_give 7 = .ok (.iconst 0, 1) := by decide +kernel
theorem dX1_give_8 : decode cX1_give 8 = .ok (.ireturn, 1) := by decide +kernel
theorem dX1_give_9 : decode cX1_give 9 = .ok (.aload_n 0, 1) := by decide +kernel
theorem dX1_give_10 : decode cX1_give 10 = .ok (.iload_n 1, 1) := by decide +kernel
theorem dX1_give_11 : decode cX1_give 11 = .ok (.invokevirtual 32, 3) := by decide +kernel
theorem dX1_give_14 : decode cX1_give 14 = .ok (.iload 4, 2) := by decide +kernel
theorem dX1_give_16 : decode cX1_give 16 = .ok (.iconst 1, 1) := by decide +kernel
theorem dX1_give_17 : decode cX1_give 17 = .ok (.iadd, 1) := by decide +kernel
theorem dX1_give_18 : decode cX1_give 18 = .ok (.istore 5, 2) := by decide +kernel
theorem dX1_give_20 : decode cX1_give 20 = .ok (.iload_n 1, 1) := by decide +kernel
theorem dX1_give_21 : decode cX1_give 21 = .ok (.tableswitch 229 10 24 #[75, 82, 112, 124, 138, 229, 229, 229, 229, 229, 151, 153, 171, 186, 216], 75) := by decide +kernel
theorem dX1_give_96 : decode cX1_give 96 = .ok (.aload_n 2, 1) := by decide +kernel
theorem dX1_give_97 : decode cX1_give 97 = .ok (.getfield 36, 3) := by decide +kernel
theorem dX1_give_100 : decode cX1_give 100 = .ok (.iload_n 3, 1) := by decide +kernel
theorem dX1_give_101 : decode cX1_give 101 = .ok (.iaload, 1) := by decide +kernel
theorem dX1_give_102 : decode cX1_give 102 = .ok (.ireturn, 1) := by decide +kernel
theorem dX1_give_103 : decode cX1_give 103 = .ok (.aload_n 0, 1) := by decide +kernel
theorem dX1_give_104 : decode cX1_give 104 = .ok (.bipush 10, 2) := by decide +kernel
theorem dX1_give_106 : decode cX1_give 106 = .ok (.aload_n 2, 1) := by decide +kernel
theorem dX1_give_107 : decode cX1_give 107 = .ok (.iload_n 3, 1) := by decide +kernel
theorem dX1_give_108 : decode cX1_give 108 = .ok (.iload 5, 2) := by decide +kernel
theorem dX1_give_110 : decode cX1_give 110 = .ok (.invokevirtual 28, 3) := by decide +kernel
theorem dX1_give_113 : decode cX1_give 113 = .ok (.aload_n 0, 1) := by decide +kernel
theorem dX1_give_114 : decode cX1_give 114 = .ok (.getstatic 25, 3) := by decide +kernel
theorem dX1_give_117 : decode cX1_give 117 = .ok (.aload_n 2, 1) := by decide +kernel
theorem dX1_give_118 : decode cX1_give 118 = .ok (.getfield 17, 3) := by decide +kernel
theorem dX1_give_121 : decode cX1_give 121 = .ok (.iload_n 3, 1) := by decide +kernel
theorem dX1_give_122 : decode cX1_give 122 = .ok (.iaload, 1) := by decide +kernel
theorem dX1_give_123 : decode cX1_give 123 = .ok (.iaload, 1) := by decide +kernel
theorem dX1_give_124 : decode cX1_give 124 = .ok (.aload_n 2, 1) := by decide +kernel
theorem dX1_give_125 : decode cX1_give 125 = .ok (.iload_n 3, 1) := by decide +kernel
theorem dX1_give_126 : decode cX1_give 126 = .ok (.iload 5, 2) := by decide +kernel
theorem dX1_give_128 : decode cX1_give 128 = .ok (.invokevirtual 28, 3) := by decide +kernel
theorem dX1_give_131 : decode cX1_give 131 = .ok (.iadd, 1) := by decide +kernel
theorem dX1_give_132 : decode cX1_give 132 = .ok (.ireturn, 1) := by decide +kernel
theorem dX1_give_133 : decode cX1_give 133 = .ok (.aload_n 0, 1) := by decide +kernel
theorem dX1_give_134 : decode cX1_give 134 = .ok (.bipush 11, 2) := by decide +kernel
theorem dX1_give_136 : decode cX1_give 136 = .ok (.aload_n 2, 1) := by decide +kernel
theorem dX1_give_137 : decode cX1_give 137 = .ok (.iload_n 3, 1) := by decide +kernel
theorem dX1_give_138 : decode cX1_give 138 = .ok (.iload 5, 2) := by decide +kernel
theorem dX1_give_140 : decode cX1_give 140 = .ok (.invokevirtual 28, 3) := by decide +kernel
theorem dX1_give_143 : decode cX1_give 143 = .ok (.ineg, 1) := by decide +kernel
theorem dX1_give_144 : decode cX1_give 144 = .ok (.ireturn, 1) := by decide +kernel
theorem dX1_give_145 : decode cX1_give 145 = .ok (.aload_n 0, 1) := by decide +kernel
theorem dX1_give_146 : decode cX1_give 146 = .ok (.bipush 10, 2) := by decide +kernel
theorem dX1_give_148 : decode cX1_give 148 = .ok (.aload_n 2, 1) := by decide +kernel
theorem dX1_give_149 : decode cX1_give 149 = .ok (.iload_n 3, 1) := by decide +kernel
theorem dX1_give_150 : decode cX1_give 150 = .ok (.iload 5, 2) := by decide +kernel
theorem dX1_give_152 : decode cX1_give 152 = .ok (.invokevirtual 28, 3) := by decide +kernel
theorem dX1_give_155 : decode cX1_give 155 = .ok (.bipush 100, 2) := by decide +kernel
theorem dX1_give_157 : decode cX1_give 157 = .ok (.isub, 1) := by decide +kernel
theorem dX1_give_158 : decode cX1_give 158 = .ok (.ireturn, 1) := by decide +kernel
theorem dX1_give_159 : decode cX1_give 159 = .ok (.iconst 2, 1) := by decide +kernel
theorem dX1_give_160 : decode cX1_give 160 = .ok (.aload_n 0, 1) := by decide +kernel
theorem dX1_give_161 : decode cX1_give 161 = .ok (.bipush 13, 2) := by decide +kernel
theorem dX1_give_163 : decode cX1_give 163 = .ok (.aload_n 2, 1) := by decide +kernel
theorem dX1_give_164 : decode cX1_give 164 = .ok (.iload_n 3, 1) := by decide +kernel
theorem dX1_give_165 : decode cX1_give 165 = .ok (.iload 5, 2) := by decide +kernel
theorem dX1_give_167 : decode cX1_give 167 = .ok (.invokevirtual 28, 3) := by decide +kernel
theorem dX1_give_170 : decode cX1_give 170 = .ok (.imul, 1) := by decide +kernel
theorem dX1_give_171 : decode cX1_give 171 = .ok (.ireturn, 1) := by decide +kernel
theorem dX1_give_172 : decode cX1_give 172 = .ok (.iload_n 3, 1) := by decide +kernel
theorem dX1_give_173 : decode cX1_give 173 = .ok (.ireturn, 1) := by decide +kernel
theorem dX1_give_174 : decode cX1_give 174 = .ok (.aload_n 0, 1) := by decide +kernel
theorem dX1_give_175 : decode cX1_give 175 = .ok (.bipush 20, 2) := by decide +kernel
theorem dX1_give_177 : decode cX1_give 177 = .ok (.aload_n 2, 1) := by decide +kernel
theorem dX1_give_178 : decode cX1_give 178 = .ok (.iload_n 3, 1) := by decide +kernel
theorem dX1_give_179 : decode cX1_give 179 = .ok (.iload 5, 2) := by decide +kernel
theorem dX1_give_181 : decode cX1_give 181 = .ok (.invokevirtual 28, 3) := by decide +kernel
theorem dX1_give_184 : decode cX1_give 184 = .ok (.aload_n 2, 1) := by decide +kernel
theorem dX1_give_185 : decode cX1_give 185 = .ok (.getfield 39, 3) := by decide +kernel
theorem dX1_give_188 : decode cX1_give 188 = .ok (.iload_n 3, 1) := by decide +kernel
theorem dX1_give_189 : decode cX1_give 189 = .ok (.iaload, 1) := by decide +kernel
theorem dX1_give_190 : decode cX1_give 190 = .ok (.iadd, 1) := by decide +kernel
theorem dX1_give_191 : decode cX1_give 191 = .ok (.ireturn, 1) := by decide +kernel
theorem dX1_give_192 : decode cX1_give 192 = .ok (.aload_n 0, 1) := by decide +kernel
theorem dX1_give_193 : decode cX1_give 193 = .ok (.bipush 21, 2) := by decide +kernel
theorem dX1_give_195 : decode cX1_give 195 = .ok (.aload_n 2, 1) := by decide +kernel
theorem dX1_give_196 : decode cX1_give 196 = .ok (.iload_n 3, 1) := by decide +kernel
theorem dX1_give_197 : decode cX1_give 197 = .ok (.iload 5, 2) := by decide +kernel
theorem dX1_give_199 : decode cX1_give 199 = .ok (.invokevirtual 28, 3) := by decide +kernel
theorem dX1_give_202 : decode cX1_give 202 = .ok (.sipush 1000, 3) := by decide +kernel
theorem dX1_give_205 : decode cX1_give 205 = .ok (.isub, 1) := by decide +kernel
theorem dX1_give_206 : decode cX1_give 206 = .ok (.ireturn, 1) := by decide +kernel
theorem dX1_give_207 : decode cX1_give 207 = .ok (.aload_n 0, 1) := by decide +kernel
theorem dX1_give_208 : decode cX1_give 208 = .ok (.bipush 20, 2) := by decide +kernel
theorem dX1_give_210 : decode cX1_give 210 = .ok (.aload_n 2, 1) := by decide +kernel
theorem dX1_give_211 : decode cX1_give 211 = .ok (.iload_n 3, 1) := by decide +kernel
theorem dX1_give_212 : decode cX1_give 212 = .ok (.iload 5, 2) := by decide +kernel
theorem dX1_give_214 : decode cX1_give 214 = .ok (.invokevirtual 28, 3) := by decide +kernel
theorem dX1_give_217 : decode cX1_give 217 = .ok (.aload_n 0, 1) := by decide +kernel
theorem dX1_give_218 : decode cX1_give 218 = .ok (.getstatic 22, 3) := by decide +kernel
theorem dX1_give_221 : decode cX1_give 221 = .ok (.aload_n 2, 1) := by decide +kernel
theorem dX1_give_222 : decode cX1_give 222 = .ok (.getfield 17, 3) := by decide +kernel
theorem dX1_give_225 : decode cX1_give 225 = .ok (.iload_n 3, 1) := by decide +kernel
theorem dX1_give_226 : decode cX1_give 226 = .ok (.iaload, 1) := by decide +kernel
theorem dX1_give_227 : decode cX1_give 227 = .ok (.iaload, 1) := by decide +kernel
theorem dX1_give_228 : decode cX1_give 228 = .ok (.aload_n 2, 1) := by decide +kernel
theorem dX1_give_229 : decode cX1_give 229 = .ok (.iload_n 3, 1) := by decide +kernel
theorem dX1_give_230 : decode cX1_give 230 = .ok (.iload 5, 2) := by decide +kernel
theorem dX1_give_232 : decode cX1_give 232 = .ok (.invokevirtual 28, 3) := by decide +kernel
theorem dX1_give_235 : decode cX1_give 235 = .ok (.isub, 1) := by decide +kernel
theorem dX1_give_236 : decode cX1_give 236 = .ok (.ireturn, 1) := by decide +kernel
theorem dX1_give_237 : decode cX1_give 237 = .ok (.iconst 2, 1) := by decide +kernel
theorem dX1_give_238 : decode cX1_give 238 = .ok (.aload_n 0, 1) := by decide +kernel
theorem dX1_give_239 : decode cX1_give 239 = .ok (.bipush 21, 2) := by decide +kernel
theorem dX1_give_241 : decode cX1_give 241 = .ok (.aload_n 2, 1) := by decide +kernel
theorem dX1_give_242 : decode cX1_give 242 = .ok (.iload_n 3, 1) := by decide +kernel
theorem dX1_give_243 : decode cX1_give 243 = .ok (.iload 5, 2) := by decide +kernel
theorem dX1_give_245 : decode cX1_give 245 = .ok (.invokevirtual 28, 3) := by decide +kernel
theorem dX1_give_248 : decode cX1_give 248 = .ok (.imul, 1) := by decide +kernel
theorem dX1_give_249 : decode cX1_give 249 = .ok (.ireturn, 1) := by decide +kernel
theorem dX1_give_250 : decode cX1_give 250 = .ok (.iconst 0, 1) := by decide +kernel
theorem dX1_give_251 : decode cX1_give 251 = .ok (.ireturn, 1) := by decide +kernel
theorem dX1_leave_0 : decode cX1_leave 0 = .ok (.aload_n 0, 1) := by decide +kernel
theorem dX1_leave_1 : decode cX1_leave 1 = .ok (.getfield 13, 3) := by decide +kernel
theorem dX1_leave_4 : decode cX1_leave 4 = .ok (.bipush 16, 2) := by decide +kernel
theorem dX1_leave_6 : decode cX1_leave 6 = .ok (.if_icmp .ge 23, 3) := by decide +kernel
theorem dX1_leave_9 : decode cX1_leave 9 = .ok (.aload_n 0, 1) := by decide +kernel
theorem dX1_leave_10 : decode cX1_leave 10 = .ok (.getfield 9, 3) := by decide +kernel
theorem dX1_leave_13 : decode cX1_leave 13 = .ok (.aload_n 0, 1) := by decide +kernel
theorem dX1_leave_14 : decode cX1_leave 14 = .ok (.getfield 13, 3) := by decide +kernel
theorem dX1_leave_17 : decode cX1_leave 17 = .ok (.iload_n 1, 1) := by decide +kernel
theorem dX1_leave_18 : decode cX1_leave 18 = .ok (.iastore, 1) := by decide +kernel
theorem dX1_leave_19 : decode cX1_leave 19 = .ok (.aload_n 0, 1) := by decide +kernel
theorem dX1_leave_20 : decode cX1_leave 20 = .ok (.dup, 1) := by decide +kernel
theorem dX1_leave_21 : decode cX1_leave 21 = .ok (.getfield 13, 3) := by decide +kernel
theorem dX1_leave_24 : decode cX1_leave 24 = .ok (.iconst 1, 1) := by decide +kernel
theorem dX1_leave_25 : decode cX1_leave 25 = .ok (.iadd, 1) := by decide +kernel
theorem dX1_leave_26 : decode cX1_leave 26 = .ok (.putfield 13, 3) := by decide +kernel
theorem dX1_leave_29 : decode cX1_leave 29 = .ok (.return_, 1) := by decide +kernel
theorem dX2_init_0 : decode cX2_init 0 = .ok (.aload_n 0, 1) := by decide +kernel
theorem dX2_init_1 : decode cX2_init 1 = .ok (.invokespecial 3, 3) := by decide +kernel
theorem dX2_init_4 : decode cX2_init 4 = .ok (.aload_n 0, 1) := by decide +kernel
theorem dX2_init_5 : decode cX2_init 5 = .ok (.new 9, 3) := by decide +kernel
theorem dX2_init_8 : decode cX2_init 8 = .ok (.dup, 1) := by decide +kernel
theorem dX2_init_9 : decode cX2_init 9 = .ok (.invokespecial 11, 3) := by decide +kernel
theorem dX2_init_12 : decode cX2_init 12 = .ok (.putfield 12, 3) := by decide +kernel
theorem dX2_init_15 : decode cX2_init 15 = .ok (.aload_n 0, 1) := by decide +kernel
theorem dX2_init_16 : decode cX2_init 16 = .ok (.bipush 25, 2) := by decide +kernel
theorem dX2_init_18 : decode cX2_init 18 = .ok (.newarray .int, 2) := by decide +kernel
theorem dX2_init_20 : decode cX2_init 20 = .ok (.putfield 18, 3) := by decide +kernel
theorem dX2_init_23 : decode cX2_init 23 = .ok (.aload_n 0, 1) := by decide +kernel
theorem dX2_init_24 : decode cX2_init 24 = .ok (.bipush 25, 2) := by decide +kernel
theorem dX2_init_26 : decode cX2_init 26 = .ok (.newarray .int, 2) := by decide +kernel
theorem dX2_init_28 : decode cX2_init 28 = .ok (.putfield 22, 3) := by decide +kernel
theorem dX2_init_31 : decode cX2_init 31 = .ok (.return_, 1) := by decide +kernel
theorem dX2_behind_0 : decode cX2_behind 0 = .ok (.aload_n 0, 1) := by decide +kernel
theorem dX2_behind_1 : decode cX2_behind 1 = .ok (.getfield 12, 3) := by decide +kernel
theorem dX2_behind_4 : decode cX2_behind 4 = .ok (.aload_n 1, 1) := by decide +kernel
theorem dX2_behind_5 : decode cX2_behind 5 = .ok (.invokevirtual 25, 3) := by decide +kernel
theorem dX2_behind_8 : decode cX2_behind 8 = .ok (.aload_n 0, 1) := by decide +kernel
theorem dX2_behind_9 : decode cX2_behind 9 = .ok (.iload_n 2, 1) := by decide +kernel
theorem dX2_behind_10 : decode cX2_behind 10 = .ok (.invokevirtual 29, 3) := by decide +kernel
theorem dX2_behind_13 : decode cX2_behind 13 = .ok (.aload_n 0, 1) := by decide +kernel
theorem dX2_behind_14 : decode cX2_behind 14 = .ok (.getfield 12, 3) := by decide +kernel
theorem dX2_behind_17 : decode cX2_behind 17 = .ok (.areturn, 1) := by decide +kernel
theorem dX2_firstEmpty_0 : decode cX2_firstEmpty 0 = .ok (.aload_n 0, 1) := by decide +kernel
theorem dX2_firstEmpty_1 : decode cX2_firstEmpty 1 = .ok (.getfield 12, 3) := by decide +kernel
theorem dX2_firstEmpty_4 : decode cX2_firstEmpty 4 = .ok (.aload_n 1, 1) := by decide +kernel
theorem dX2_firstEmpty_5 : decode cX2_firstEmpty 5 = .ok (.invokevirtual 25, 3) := by decide +kernel
theorem dX2_firstEmpty_8 : decode cX2_firstEmpty 8 = .ok (.iconst 0, 1) := by decide +kernel
theorem dX2_firstEmpty_9 : decode cX2_firstEmpty 9 = .ok (.istore_n 3, 1) := by decide +kernel
theorem dX2_firstEmpty_10 : decode cX2_firstEmpty 10 = .ok (.iload_n 3, 1) := by decide +kernel
theorem dX2_firstEmpty_11 : decode cX2_firstEmpty 11 = .ok (.bipush 60, 2) := by decide +kernel
theorem dX2_firstEmpty_13 : decode cX2_firstEmpty 13 = .ok (.if_icmp .gt 43, 3) := by decide +kernel
theorem dX2_firstEmpty_16 : decode cX2_firstEmpty 16 = .ok (.aload_n 0, 1) := by decide +kernel
theorem dX2_firstEmpty_17 : decode cX2_firstEmpty 17 = .ok (.getfield 12, 3) := by decide +kernel
theorem dX2_firstEmpty_20 : decode cX2_firstEmpty 20 = .ok (.invokevirtual 33, 3) := by decide +kernel
theorem dX2_firstEmpty_23 : decode cX2_firstEmpty 23 = .ok (.istore 4, 2) := by decide +kernel
theorem dX2_firstEmpty_25 : decode cX2_firstEmpty 25 = .ok (.iload 4, 2) := by decide +kernel
theorem dX2_firstEmpty_27 : decode cX2_firstEmpty 27 = .ok (.ldc 37, 2) := by decide +kernel
theorem dX2_firstEmpty_29 : decode cX2_firstEmpty 29 = .ok (.if_icmp .eq 14, 3) := by decide +kernel
theorem dX2_firstEmpty_32 : decode cX2_firstEmpty 32 = .ok (.iload_n 2, 1) := by decide +kernel
theorem dX2_firstEmpty_33 : decode cX2_firstEmpty 33 = .ok (.ifCond .ne 8, 3) := by decide +kernel
theorem dX2_firstEmpty_36 : decode cX2_firstEmpty 36 = .ok (.iload 4, 2) := by decide +kernel
theorem dX2_firstEmpty_38 : decode cX2_firstEmpty 38 = .ok (.goto 4, 3) := by decide +kernel
theorem dX2_firstEmpty_41 : decode cX2_firstEmpty 41 = .ok (.iload_n 3, 1) := by decide +kernel
theorem dX2_firstEmpty_42 : decode cX2_firstEmpty 42 = .ok (.ireturn, 1) := by decide +kernel
theorem dX2_firstEmpty_43 : decode cX2_firstEmpty 43 = .ok (.aload_n 0, 1) := by decide +kernel
theorem dX2_firstEmpty_44 : decode cX2_firstEmpty 44 = .ok (.getfield 12, 3) := by decide +kernel
theorem dX2_firstEmpty_47 : decode cX2_firstEmpty 47 = .ok (.invokevirtual 38, 3) := by decide +kernel
theorem dX2_firstEmpty_50 : decode cX2_firstEmpty 50 = .ok (.iinc 3 1, 3) := by decide +kernel
theorem dX2_firstEmpty_53 : decode cX2_firstEmpty 53 = .ok (.goto (-43), 3) := by decide +kernel
theorem dX2_firstEmpty_56 : decode cX2_firstEmpty 56 = .ok (.ldc 37, 2) := by decide +kernel
theorem dX2_firstEmpty_58 : decode cX2_firstEmpty 58 = .ok (.ireturn, 1) := by decide +kernel
theorem dX2_firstCold_0 : decode cX2_firstCold 0 = .ok (.aload_n 0, 1) := by decide +kernel
theorem dX2_firstCold_1 : decode cX2_firstCold 1 = .ok (.getfield 12, 3) := by decide +kernel
theorem dX2_firstCold_4 : decode cX2_firstCold 4 = .ok (.aload_n 1, 1) := by decide +kernel
theorem dX2_firstCold_5 : decode cX2_firstCold 5 = .ok (.invokevirtual 25, 3) := by decide +kernel
theorem dX2_firstCold_8 : decode cX2_firstCold 8 = .ok (.iconst 0, 1) := by decide +kernel
theorem dX2_firstCold_9 : decode cX2_firstCold 9 = .ok (.istore_n 3, 1) := by decide +kernel
theorem dX2_firstCold_10 : decode cX2_firstCold 10 = .ok (.iload_n 3, 1) := by decide +kernel
theorem dX2_firstCold_11 : decode cX2_firstCold 11 = .ok (.bipush 60, 2) := by decide +kernel
theorem dX2_firstCold_13 : decode cX2_firstCold 13 = .ok (.if_icmp .gt 29, 3) := by decide +kernel
theorem dX2_firstCold_16 : decode cX2_firstCold 16 = .ok (.aload_n 0, 1) := by decide +kernel
theorem dX2_firstCold_17 : decode cX2_firstCold 17 = .ok (.getfield 12, 3) := by decide +kernel
theorem dX2_firstCold_20 : decode cX2_firstCold 20 = .ok (.iload_n 2, 1) := by decide +kernel
theorem dX2_firstCold_21 : decode cX2_firstCold 21 = .ok (.invokevirtual 41, 3) := by decide +kernel
theorem dX2_firstCold_24 : decode cX2_firstCold 24 = .ok (.ifCond .ne 5, 3) := by decide +kernel
theorem dX2_firstCold_27 : decode cX2_firstCold 27 = .ok (.iload_n 3, 1) := by decide +kernel
theorem dX2_firstCold_28 : decode cX2_firstCold 28 = .ok (.ireturn, 1) := by decide +kernel
theorem dX2_firstCold_29 : decode cX2_firstCold 29 = .ok (.aload_n 0, 1) := by decide +kernel
theorem dX2_firstCold_30 : decode cX2_firstCold 30 = .ok (.getfield 12, 3) := by decide +kernel
theorem dX2_firstCold_33 : decode cX2_firstCold 33 = .ok (.invokevirtual 38, 3) := by decide +kernel
theorem dX2_firstCold_36 : decode cX2_firstCold 36 = .ok (.iinc 3 1, 3) := by decide +kernel
theorem dX2_firstCold_39 : decode cX2_firstCold 39 = .ok (.goto (-29), 3) := by decide +kernel
theorem dX2_firstCold_42 : decode cX2_firstCold 42 = .ok (.ldc 37, 2) := by decide +kernel
theorem dX2_firstCold_44 : decode cX2_firstCold 44 = .ok (.ireturn, 1) := by decide +kernel
theorem dX2_bestDay_0 : decode cX2_bestDay 0 = .ok (.iconst 0, 1) := by decide +kernel
theorem dX2_bestDay_1 : decode cX2_bestDay 1 = .ok (.istore 5, 2) := by decide +kernel
theorem dX2_bestDay_3 : decode cX2_bestDay 3 = .ok (.iconst (-1), 1) := by decide +kernel
theorem dX2_bestDay_4 : decode cX2_bestDay 4 = .ok (.istore 6, 2) := by decide +kernel
theorem dX2_bestDay_6 : decode cX2_bestDay 6 = .ok (.iconst 0, 1) := by decide +kernel
theorem dX2_bestDay_7 : decode cX2_bestDay 7 = .ok (.istore 7, 2) := by decide +kernel
theorem dX2_bestDay_9 : decode cX2_bestDay 9 = .ok (.iload 7, 2) := by decide +kernel
theorem dX2_bestDay_11 : decode cX2_bestDay 11 = .ok (.iload_n 3, 1) := by decide +kernel
theorem dX2_bestDay_12 : decode cX2_bestDay 12 = .ok (.if_icmp .ge 62, 3) := by decide +kernel
theorem dX2_bestDay_15 : decode cX2_bestDay 15 = .ok (.aload_n 0, 1) := by decide +kernel
theorem dX2_bestDay_16 : decode cX2_bestDay 16 = .ok (.getfield 12, 3) := by decide +kernel
theorem dX2_bestDay_19 : decode cX2_bestDay 19 = .ok (.aload_n 1, 1) := by decide +kernel
theorem dX2_bestDay_20 : decode cX2_bestDay 20 = .ok (.invokevirtual 25, 3) := by decide +kernel
theorem dX2_bestDay_23 : decode cX2_bestDay 23 = .ok (.aload_n 0, 1) := by decide +kernel
theorem dX2_bestDay_24 : decode cX2_bestDay 24 = .ok (.iload_n 2, 1) := by decide +kernel
theorem dX2_bestDay_25 : decode cX2_bestDay 25 = .ok (.iload 7, 2) := by decide +kernel
theorem dX2_bestDay_27 : decode cX2_bestDay 27 = .ok (.iload_n 2, 1) := by decide +kernel
theorem dX2_bestDay_28 : decode cX2_bestDay 28 = .ok (.iload 7, 2) := by decide +kernel
theorem dX2_bestDay_30 : decode cX2_bestDay 30 = .ok (.iload_n 3, 1) := by decide +kernel
theorem dX2_bestDay_31 : decode cX2_bestDay 31 = .ok (.invokevirtual 45, 3) := by decide +kernel
theorem dX2_bestDay_34 : decode cX2_bestDay 34 = .ok (.aload_n 0, 1) := by decide +kernel
theorem dX2_bestDay_35 : decode cX2_bestDay 35 = .ok (.getfield 12, 3) := by decide +kernel
theorem dX2_bestDay_38 : decode cX2_bestDay 38 = .ok (.getfield 49, 3) := by decide +kernel
theorem dX2_bestDay_41 : decode cX2_bestDay 41 = .ok (.aload_n 0, 1) := by decide +kernel
theorem dX2_bestDay_42 : decode cX2_bestDay 42 = .ok (.getfield 12, 3) := by decide +kernel
theorem dX2_bestDay_45 : decode cX2_bestDay 45 = .ok (.getfield 52, 3) := by decide +kernel
theorem dX2_bestDay_48 : decode cX2_bestDay 48 = .ok (.iload_n 2, 1) := by decide +kernel
theorem dX2_bestDay_49 : decode cX2_bestDay 49 = .ok (.iaload, 1) := by decide +kernel
theorem dX2_bestDay_50 : decode cX2_bestDay 50 = .ok (.iaload, 1) := by decide +kernel
theorem dX2_bestDay_51 : decode cX2_bestDay 51 = .ok (.istore 8, 2) := by decide +kernel
theorem dX2_bestDay_53 : decode cX2_bestDay 53 = .ok (.iload 8, 2) := by decide +kernel
theorem dX2_bestDay_55 : decode cX2_bestDay 55 = .ok (.iload 6, 2) := by decide +kernel
theorem dX2_bestDay_57 : decode cX2_bestDay 57 = .ok (.if_icmp .le 11, 3) := by decide +kernel
theorem dX2_bestDay_60 : decode cX2_bestDay 60 = .ok (.iload 8, 2) := by decide +kernel
theorem dX2_bestDay_62 : decode cX2_bestDay 62 = .ok (.istore 6, 2) := by decide +kernel
theorem dX2_bestDay_64 : decode cX2_bestDay 64 = .ok (.iload 7, 2) := by decide +kernel
theorem dX2_bestDay_66 : decode cX2_bestDay 66 = .ok (.istore 5, 2) := by decide +kernel
theorem dX2_bestDay_68 : decode cX2_bestDay 68 = .ok (.iinc 7 1, 3) := by decide +kernel
theorem dX2_bestDay_71 : decode cX2_bestDay 71 = .ok (.goto (-62), 3) := by decide +kernel
theorem dX2_bestDay_74 : decode cX2_bestDay 74 = .ok (.iload 4, 2) := by decide +kernel
theorem dX2_bestDay_76 : decode cX2_bestDay 76 = .ok (.ifCond .ne 8, 3) := by decide +kernel
theorem dX2_bestDay_79 : decode cX2_bestDay 79 = .ok (.iload 5, 2) := by decide +kernel
theorem dX2_bestDay_81 : decode cX2_bestDay 81 = .ok (.goto 5, 3) := by decide +kernel
theorem dX2_bestDay_84 : decode cX2_bestDay 84 = .ok (.iload 6, 2) := by decide +kernel
theorem dX2_bestDay_86 : decode cX2_bestDay 86 = .ok (.ireturn, 1) := by decide +kernel
theorem dX2_fewestDrawn_0 : decode cX2_fewestDrawn 0 = .ok (.iconst 0, 1) := by decide +kernel
theorem dX2_fewestDrawn_1 : decode cX2_fewestDrawn 1 = .ok (.istore_n 3, 1) := by decide +kernel
theorem dX2_fewestDrawn_2 : decode cX2_fewestDrawn 2 = .ok (.iload_n 3, 1) := by decide +kernel
theorem dX2_fewestDrawn_3 : decode cX2_fewestDrawn 3 = .ok (.aload_n 1, 1) := by decide +kernel
theorem dX2_fewestDrawn_4 : decode cX2_fewestDrawn 4 = .ok (.getfield 55, 3) := by decide +kernel
theorem dX2_fewestDrawn_7 : decode cX2_fewestDrawn 7 = .ok (.if_icmp .gt 52, 3) := by decide +kernel
theorem dX2_fewestDrawn_10 : decode cX2_fewestDrawn 10 = .ok (.iconst 0, 1) := by decide +kernel
theorem dX2_fewestDrawn_11 : decode cX2_fewestDrawn 11 = .ok (.istore 4, 2) := by decide +kernel
theorem dX2_fewestDrawn_13 : decode cX2_fewestDrawn 13 = .ok (.iload 4, 2) := by decide +kernel
theorem dX2_fewestDrawn_15 : decode cX2_fewestDrawn 15 = .ok (.iconst 1, 1) := by decide +kernel
theorem dX2_fewestDrawn_16 : decode cX2_fewestDrawn 16 = .ok (.aload_n 1, 1) := by decide +kernel
theorem dX2_fewestDrawn_17 : decode cX2_fewestDrawn 17 = .ok (.getfield 55, 3) := by decide +kernel
theorem dX2_fewestDrawn_20 : decode cX2_fewestDrawn 20 = .ok (.ishl, 1) := by decide +kernel
theorem dX2_fewestDrawn_21 : decode cX2_fewestDrawn 21 = .ok (.if_icmp .ge 32, 3) := by decide +kernel
theorem dX2_fewestDrawn_24 : decode cX2_fewestDrawn 24 = .ok (.iload 4, 2) := by decide +kernel
theorem dX2_fewestDrawn_26 : decode cX2_fewestDrawn 26 = .ok (.invokestatic 59, 3) := by decide +kernel
theorem dX2_fewestDrawn_29 : decode cX2_fewestDrawn 29 = .ok (.iload_n 3, 1) := by decide +kernel
theorem dX2_fewestDrawn_30 : decode cX2_fewestDrawn 30 = .ok (.if_icmp .ne 17, 3) := by decide +kernel
theorem dX2_fewestDrawn_33 : decode cX2_fewestDrawn 33 = .ok (.aload_n 0, 1) := by decide +kernel
theorem dX2_fewestDrawn_34 : decode cX2_fewestDrawn 34 = .ok (.aload_n 1, 1) := by decide +kernel
theorem dX2_fewestDrawn_35 : decode cX2_fewestDrawn 35 = .ok (.iload 4, 2) := by decide +kernel
theorem dX2_fewestDrawn_37 : decode cX2_fewestDrawn 37 = .ok (.iload_n 2, 1) := by decide +kernel
theorem dX2_fewestDrawn_38 : decode cX2_fewestDrawn 38 = .ok (.invokevirtual 65, 3) := by decide +kernel
theorem dX2_fewestDrawn_41 : decode cX2_fewestDrawn 41 = .ok (.ifCond .eq 6, 3) := by decide +kernel
theorem dX2_fewestDrawn_44 : decode cX2_fewestDrawn 44 = .ok (.iload 4, 2) := by decide +kernel
theorem dX2_fewestDrawn_46 : decode cX2_fewestDrawn 46 = .ok (.ireturn, 1) := by decide +kernel
theorem dX2_fewestDrawn_47 : decode cX2_fewestDrawn 47 = .ok (.iinc 4 1, 3) := by decide +kernel
theorem dX2_fewestDrawn_50 : decode cX2_fewestDrawn 50 = .ok (.goto (-37), 3) := by decide +kernel
theorem dX2_fewestDrawn_53 : decode cX2_fewestDrawn 53 = .ok (.iinc 3 1, 3) := by decide +kernel
theorem dX2_fewestDrawn_56 : decode cX2_fewestDrawn 56 = .ok (.goto (-54), 3) := by decide +kernel
theorem dX2_fewestDrawn_59 : decode cX2_fewestDrawn 59 = .ok (.ldc 37, 2) := by decide +kernel
theorem dX2_fewestDrawn_61 : decode cX2_fewestDrawn 61 = .ok (.ireturn, 1) := by decide +kernel
theorem dX2_weighWaits_0 : decode cX2_weighWaits 0 = .ok (.iconst 0, 1) := by decide +kernel
theorem dX2_weighWaits_1 : decode cX2_weighWaits 1 = .ok (.istore 5, 2) := by decide +kernel
theorem dX2_weighWaits_3 : decode cX2_weighWaits 3 = .ok (.iload 5, 2) := by decide +kernel
theorem dX2_weighWaits_5 : decode cX2_weighWaits 5 = .ok (.iconst 5, 1) := by decide +kernel
theorem dX2_weighWaits_6 : decode cX2_weighWaits 6 = .ok (.if_icmp .ge 102, 3) := by decide +kernel
theorem dX2_weighWaits_9 : decode cX2_weighWaits 9 = .ok (.iconst 0, 1) := by decide +kernel
theorem dX2_weighWaits_10 : decode cX2_weighWaits 10 = .ok (.istore 6, 2) := by decide +kernel
theorem dX2_weighWaits_12 : decode cX2_weighWaits 12 = .ok (.iload 6, 2) := by decide +kernel
theorem dX2_weighWaits_14 : decode cX2_weighWaits 14 = .ok (.iconst 5, 1) := by decide +kernel
theorem dX2_weighWaits_15 : decode cX2_weighWaits 15 = .ok (.if_icmp .ge 87, 3) := by decide +kernel
theorem dX2_weighWaits_18 : decode cX2_weighWaits 18 = .ok (.aload_n 0, 1) := by decide +kernel
theorem dX2_weighWaits_19 : decode cX2_weighWaits 19 = .ok (.getfield 12, 3) := by decide +kernel
theorem dX2_weighWaits_22 : decode cX2_weighWaits 22 = .ok (.aload_n 1, 1) := by decide +kernel
theorem dX2_weighWaits_23 : decode cX2_weighWaits 23 = .ok (.invokevirtual 25, 3) := by decide +kernel
theorem dX2_weighWaits_26 : decode cX2_weighWaits 26 = .ok (.aload_n 0, 1) := by decide +kernel
theorem dX2_weighWaits_27 : decode cX2_weighWaits 27 = .ok (.iload_n 2, 1) := by decide +kernel
theorem dX2_weighWaits_28 : decode cX2_weighWaits 28 = .ok (.iload 5, 2) := by decide +kernel
theorem dX2_weighWaits_30 : decode cX2_weighWaits 30 = .ok (.iload_n 3, 1) := by decide +kernel
theorem dX2_weighWaits_31 : decode cX2_weighWaits 31 = .ok (.iload 6, 2) := by decide +kernel
theorem dX2_weighWaits_33 : decode cX2_weighWaits 33 = .ok (.iload 4, 2) := by decide +kernel
theorem dX2_weighWaits_35 : decode cX2_weighWaits 35 = .ok (.invokevirtual 45, 3) := by decide +kernel
theorem dX2_weighWaits_38 : decode cX2_weighWaits 38 = .ok (.aload_n 0, 1) := by decide +kernel
theorem dX2_weighWaits_39 : decode cX2_weighWaits 39 = .ok (.getfield 18, 3) := by decide +kernel
theorem dX2_weighWaits_42 : decode cX2_weighWaits 42 = .ok (.iload 5, 2) := by decide +kernel
theorem dX2_weighWaits_44 : decode cX2_weighWaits 44 = .ok (.iconst 5, 1) := by decide +kernel
theorem dX2_weighWaits_45 : decode cX2_weighWaits 45 = .ok (.imul, 1) := by decide +kernel
theorem dX2_weighWaits_46 : decode cX2_weighWaits 46 = .ok (.iload 6, 2) := by decide +kernel
theorem dX2_weighWaits_48 : decode cX2_weighWaits 48 = .ok (.iadd, 1) := by decide +kernel
theorem dX2_weighWaits_49 : decode cX2_weighWaits 49 = .ok (.aload_n 0, 1) := by decide +kernel
theorem dX2_weighWaits_50 : decode cX2_weighWaits 50 = .ok (.getfield 12, 3) := by decide +kernel
theorem dX2_weighWaits_53 : decode cX2_weighWaits 53 = .ok (.getfield 49, 3) := by decide +kernel
theorem dX2_weighWaits_56 : decode cX2_weighWaits 56 = .ok (.aload_n 0, 1) := by decide +kernel
theorem dX2_weighWaits_57 : decode cX2_weighWaits 57 = .ok (.getfield 12, 3) := by decide +kernel
theorem dX2_weighWaits_60 : decode cX2_weighWaits 60 = .ok (.getfield 52, 3) := by decide +kernel
theorem dX2_weighWaits_63 : decode cX2_weighWaits 63 = .ok (.iload_n 2, 1) := by decide +kernel
theorem dX2_weighWaits_64 : decode cX2_weighWaits 64 = .ok (.iaload, 1) := by decide +kernel
theorem dX2_weighWaits_65 : decode cX2_weighWaits 65 = .ok (.iaload, 1) := by decide +kernel
theorem dX2_weighWaits_66 : decode cX2_weighWaits 66 = .ok (.iastore, 1) := by decide +kernel
theorem dX2_weighWaits_67 : decode cX2_weighWaits 67 = .ok (.aload_n 0, 1) := by decide +kernel
theorem dX2_weighWaits_68 : decode cX2_weighWaits 68 = .ok (.getfield 22, 3) := by decide +kernel
theorem dX2_weighWaits_71 : decode cX2_weighWaits 71 = .ok (.iload 5, 2) := by decide +kernel
theorem dX2_weighWaits_73 : decode cX2_weighWaits 73 = .ok (.iconst 5, 1) := by decide +kernel
theorem dX2_weighWaits_74 : decode cX2_weighWaits 74 = .ok (.imul, 1) := by decide +kernel
theorem dX2_weighWaits_75 : decode cX2_weighWaits 75 = .ok (.iload 6, 2) := by decide +kernel
theorem dX2_weighWaits_77 : decode cX2_weighWaits 77 = .ok (.iadd, 1) := by decide +kernel
theorem dX2_weighWaits_78 : decode cX2_weighWaits 78 = .ok (.aload_n 0, 1) := by decide +kernel
theorem dX2_weighWaits_79 : decode cX2_weighWaits 79 = .ok (.getfield 12, 3) := by decide +kernel
theorem dX2_weighWaits_82 : decode cX2_weighWaits 82 = .ok (.getfield 49, 3) := by decide +kernel
theorem dX2_weighWaits_85 : decode cX2_weighWaits 85 = .ok (.aload_n 0, 1) := by decide +kernel
theorem dX2_weighWaits_86 : decode cX2_weighWaits 86 = .ok (.getfield 12, 3) := by decide +kernel
theorem dX2_weighWaits_89 : decode cX2_weighWaits 89 = .ok (.getfield 52, 3) := by decide +kernel
theorem dX2_weighWaits_92 : decode cX2_weighWaits 92 = .ok (.iload_n 3, 1) := by decide +kernel
theorem dX2_weighWaits_93 : decode cX2_weighWaits 93 = .ok (.iaload, 1) := by decide +kernel
theorem dX2_weighWaits_94 : decode cX2_weighWaits 94 = .ok (.iaload, 1) := by decide +kernel
theorem dX2_weighWaits_95 : decode cX2_weighWaits 95 = .ok (.iastore, 1) := by decide +kernel
theorem dX2_weighWaits_96 : decode cX2_weighWaits 96 = .ok (.iinc 6 1, 3) := by decide +kernel
theorem dX2_weighWaits_99 : decode cX2_weighWaits 99 = .ok (.goto (-87), 3) := by decide +kernel
theorem dX2_weighWaits_102 : decode cX2_weighWaits 102 = .ok (.iinc 5 1, 3) := by decide +kernel
theorem dX2_weighWaits_105 : decode cX2_weighWaits 105 = .ok (.goto (-102), 3) := by decide +kernel
theorem dX2_weighWaits_108 : decode cX2_weighWaits 108 = .ok (.return_, 1) := by decide +kernel
theorem dX2_restingWaits_0 : decode cX2_restingWaits 0 = .ok (.iconst 0, 1) := by decide +kernel
theorem dX2_restingWaits_1 : decode cX2_restingWaits 1 = .ok (.istore_n 2, 1) := by decide +kernel
theorem dX2_restingWaits_2 : decode cX2_restingWaits 2 = .ok (.iconst 0, 1) := by decide +kernel
theorem dX2_restingWaits_3 : decode cX2_restingWaits 3 = .ok (.istore_n 3, 1) := by decide +kernel
theorem dX2_restingWaits_4 : decode cX2_restingWaits 4 = .ok (.iload_n 3, 1) := by decide +kernel
theorem dX2_restingWaits_5 : decode cX2_restingWaits 5 = .ok (.iconst 5, 1) := by decide +kernel
theorem dX2_restingWaits_6 : decode cX2_restingWaits 6 = .ok (.if_icmp .ge 53, 3) := by decide +kernel
theorem dX2_restingWaits_9 : decode cX2_restingWaits 9 = .ok (.iconst 0, 1) := by decide +kernel
theorem dX2_restingWaits_10 : decode cX2_restingWaits 10 = .ok (.istore 4, 2) := by decide +kernel
theorem dX2_restingWaits_12 : decode cX2_restingWaits 12 = .ok (.iload 4, 2) := by decide +kernel
theorem dX2_restingWaits_14 : decode cX2_restingWaits 14 = .ok (.iconst 5, 1) := by decide +kernel
theorem dX2_restingWaits_15 : decode cX2_restingWaits 15 = .ok (.if_icmp .ge 38, 3) := by decide +kernel
theorem dX2_restingWaits_18 : decode cX2_restingWaits 18 = .ok (.aload_n 0, 1) := by decide +kernel
theorem dX2_restingWaits_19 : decode cX2_restingWaits 19 = .ok (.iload_n 3, 1) := by decide +kernel
theorem dX2_restingWaits_20 : decode cX2_restingWaits 20 = .ok (.iload 4, 2) := by decide +kernel
theorem dX2_restingWaits_22 : decode cX2_restingWaits 22 = .ok (.invokevirtual 69, 3) := by decide +kernel
theorem dX2_restingWaits_25 : decode cX2_restingWaits 25 = .ok (.ifCond .ne 6, 3) := by decide +kernel
theorem dX2_restingWaits_28 : decode cX2_restingWaits 28 = .ok (.goto 19, 3) := by decide +kernel
theorem dX2_restingWaits_31 : decode cX2_restingWaits 31 = .ok (.iload_n 2, 1) := by decide +kernel
theorem dX2_restingWaits_32 : decode cX2_restingWaits 32 = .ok (.iload_n 1, 1) := by decide +kernel
theorem dX2_restingWaits_33 : decode cX2_restingWaits 33 = .ok (.if_icmp .ne 11, 3) := by decide +kernel
theorem dX2_restingWaits_36 : decode cX2_restingWaits 36 = .ok (.bipush 10, 2) := by decide +kernel
theorem dX2_restingWaits_38 : decode cX2_restingWaits 38 = .ok (.iload_n 3, 1) := by decide +kernel
theorem dX2_restingWaits_39 : decode cX2_restingWaits 39 = .ok (.imul, 1) := by decide +kernel
theorem dX2_restingWaits_40 : decode cX2_restingWaits 40 = .ok (.iload 4, 2) := by decide +kernel
theorem dX2_restingWaits_42 : decode cX2_restingWaits 42 = .ok (.iadd, 1) := by decide +kernel
theorem dX2_restingWaits_43 : decode cX2_restingWaits 43 = .ok (.ireturn, 1) := by decide +kernel
theorem dX2_restingWaits_44 : decode cX2_restingWaits 44 = .ok (.iinc 2 1, 3) := by decide +kernel
theorem dX2_restingWaits_47 : decode cX2_restingWaits 47 = .ok (.iinc 4 1, 3) := by decide +kernel
theorem dX2_restingWaits_50 : decode cX2_restingWaits 50 = .ok (.goto (-38), 3) := by decide +kernel
theorem dX2_restingWaits_53 : decode cX2_restingWaits 53 = .ok (.iinc 3 1, 3) := by decide +kernel
theorem dX2_restingWaits_56 : decode cX2_restingWaits 56 = .ok (.goto (-52), 3) := by decide +kernel
theorem dX2_restingWaits_59 : decode cX2_restingWaits 59 = .ok (.iload_n 1, 1) := by decide +kernel
theorem dX2_restingWaits_60 : decode cX2_restingWaits 60 = .ok (.iconst (-1), 1) := by decide +kernel
theorem dX2_restingWaits_61 : decode cX2_restingWaits 61 = .ok (.if_icmp .ne 7, 3) := by decide +kernel
theorem dX2_restingWaits_64 : decode cX2_restingWaits 64 = .ok (.iload_n 2, 1) := by decide +kernel
theorem dX2_restingWaits_65 : decode cX2_restingWaits 65 = .ok (.goto 5, 3) := by decide +kernel
theorem dX2_restingWaits_68 : decode cX2_restingWaits 68 = .ok (.ldc 37, 2) := by decide +kernel
theorem dX2_restingWaits_70 : decode cX2_restingWaits 70 = .ok (.ireturn, 1) := by decide +kernel
theorem dX2_fitting_0 : decode cX2_fitting 0 = .ok (.iconst 0, 1) := by decide +kernel
theorem dX2_fitting_1 : decode cX2_fitting 1 = .ok (.istore 7, 2) := by decide +kernel
theorem dX2_fitting_3 : decode cX2_fitting 3 = .ok (.iconst 0, 1) := by decide +kernel
theorem dX2_fitting_4 : decode cX2_fitting 4 = .ok (.istore 8, 2) := by decide +kernel
theorem dX2_fitting_6 : decode cX2_fitting 6 = .ok (.ldc 37, 2) := by decide +kernel
theorem dX2_fitting_8 : decode cX2_fitting 8 = .ok (.istore 9, 2) := by decide +kernel
theorem dX2_fitting_10 : decode cX2_fitting 10 = .ok (.getstatic 73, 3) := by decide +kernel
theorem dX2_fitting_13 : decode cX2_fitting 13 = .ok (.iload 6, 2) := by decide +kernel
theorem dX2_fitting_15 : decode cX2_fitting 15 = .ok (.iaload, 1) := by decide +kernel
theorem dX2_fitting_16 : decode cX2_fitting 16 = .ok (.istore 10, 2) := by decide +kernel
theorem dX2_fitting_18 : decode cX2_fitting 18 = .ok (.iload 10, 2) := by decide +kernel
theorem dX2_fitting_20 : decode cX2_fitting 20 = .ok (.getstatic 76, 3) := by decide +kernel
theorem dX2_fitting_23 : decode cX2_fitting 23 = .ok (.iload 6, 2) := by decide +kernel
theorem dX2_fitting_25 : decode cX2_fitting 25 = .ok (.iaload, 1) := by decide +kernel
theorem dX2_fitting_26 : decode cX2_fitting 26 = .ok (.if_icmp .gt 78, 3) := by decide +kernel
theorem dX2_fitting_29 : decode cX2_fitting 29 = .ok (.aload_n 0, 1) := by decide +kernel
theorem dX2_fitting_30 : decode cX2_fitting 30 = .ok (.getfield 12, 3) := by decide +kernel
theorem dX2_fitting_33 : decode cX2_fitting 33 = .ok (.aload_n 1, 1) := by decide +kernel
theorem dX2_fitting_34 : decode cX2_fitting 34 = .ok (.invokevirtual 25, 3) := by decide +kernel
theorem dX2_fitting_37 : decode cX2_fitting 37 = .ok (.aload_n 0, 1) := by decide +kernel
theorem dX2_fitting_38 : decode cX2_fitting 38 = .ok (.iload_n 2, 1) := by decide +kernel
theorem dX2_fitting_39 : decode cX2_fitting 39 = .ok (.iload 6, 2) := by decide +kernel
theorem dX2_fitting_41 : decode cX2_fitting 41 = .ok (.iload 10, 2) := by decide +kernel
theorem dX2_fitting_43 : decode cX2_fitting 43 = .ok (.invokevirtual 79, 3) := by decide +kernel
theorem dX2_fitting_46 : decode cX2_fitting 46 = .ok (.aload_n 0, 1) := by decide +kernel
theorem dX2_fitting_47 : decode cX2_fitting 47 = .ok (.iload_n 2, 1) := by decide +kernel
theorem dX2_fitting_48 : decode cX2_fitting 48 = .ok (.aload_n 3, 1) := by decide +kernel
theorem dX2_fitting_49 : decode cX2_fitting 49 = .ok (.iload 4, 2) := by decide +kernel
theorem dX2_fitting_51 : decode cX2_fitting 51 = .ok (.iload 5, 2) := by decide +kernel
theorem dX2_fitting_53 : decode cX2_fitting 53 = .ok (.invokevirtual 83, 3) := by decide +kernel
theorem dX2_fitting_56 : decode cX2_fitting 56 = .ok (.ifCond .ne 6, 3) := by decide +kernel
theorem dX2_fitting_59 : decode cX2_fitting 59 = .ok (.goto 39, 3) := by decide +kernel
theorem dX2_fitting_62 : decode cX2_fitting 62 = .ok (.iload 8, 2) := by decide +kernel
theorem dX2_fitting_64 : decode cX2_fitting 64 = .ok (.ifCond .ne 8, 3) := by decide +kernel
theorem dX2_fitting_67 : decode cX2_fitting 67 = .ok (.iload 10, 2) := by decide +kernel
theorem dX2_fitting_69 : decode cX2_fitting 69 = .ok (.goto 5, 3) := by decide +kernel
theorem dX2_fitting_72 : decode cX2_fitting 72 = .ok (.iload 9, 2) := by decide +kernel
theorem dX2_fitting_74 : decode cX2_fitting 74 = .ok (.istore 9, 2) := by decide +kernel
theorem dX2_fitting_76 : decode cX2_fitting 76 = .ok (.iinc 8 1, 3) := by decide +kernel
theorem dX2_fitting_79 : decode cX2_fitting 79 = .ok (.iload 7, 2) := by decide +kernel
theorem dX2_fitting_81 : decode cX2_fitting 81 = .ok (.iload 6, 2) := by decide +kernel
theorem dX2_fitting_83 : decode cX2_fitting 83 = .ok (.iconst 3, 1) := by decide +kernel
theorem dX2_fitting_84 : decode cX2_fitting 84 = .ok (.if_icmp .ge 10, 3) := by decide +kernel
theorem dX2_fitting_87 : decode cX2_fitting 87 = .ok (.iconst 1, 1) := by decide +kernel
theorem dX2_fitting_88 : decode cX2_fitting 88 = .ok (.iload 10, 2) := by decide +kernel
theorem dX2_fitting_90 : decode cX2_fitting 90 = .ok (.ishl, 1) := by decide +kernel
theorem dX2_fitting_91 : decode cX2_fitting 91 = .ok (.goto 4, 3) := by decide +kernel
theorem dX2_fitting_94 : decode cX2_fitting 94 = .ok (.iconst 0, 1) := by decide +kernel
theorem dX2_fitting_95 : decode cX2_fitting 95 = .ok (.ior, 1) := by decide +kernel
theorem dX2_fitting_96 : decode cX2_fitting 96 = .ok (.istore 7, 2) := by decide +kernel
theorem dX2_fitting_98 : decode cX2_fitting 98 = .ok (.iinc 10 1, 3) := by decide +kernel
theorem dX2_fitting_101 : decode cX2_fitting 101 = .ok (.goto (-83), 3) := by decide +kernel
theorem dX2_fitting_104 : decode cX2_fitting 104 = .ok (.iload 6, 2) := by decide +kernel
theorem dX2_fitting_106 : decode cX2_fitting 106 = .ok (.iconst 3, 1) := by decide +kernel
theorem dX2_fitting_107 : decode cX2_fitting 107 = .ok (.if_icmp .ge 6, 3) := by decide +kernel
theorem dX2_fitting_110 : decode cX2_fitting 110 = .ok (.iload 7, 2) := by decide +kernel
theorem dX2_fitting_112 : decode cX2_fitting 112 = .ok (.ireturn, 1) := by decide +kernel
theorem dX2_fitting_113 : decode cX2_fitting 113 = .ok (.iload 6, 2) := by decide +kernel
theorem dX2_fitting_115 : decode cX2_fitting 115 = .ok (.iconst 3, 1) := by decide +kernel
theorem dX2_fitting_116 : decode cX2_fitting 116 = .ok (.if_icmp .ne 8, 3) := by decide +kernel
theorem dX2_fitting_119 : decode cX2_fitting 119 = .ok (.iload 8, 2) := by decide +kernel
theorem dX2_fitting_121 : decode cX2_fitting 121 = .ok (.goto 5, 3) := by decide +kernel
theorem dX2_fitting_124 : decode cX2_fitting 124 = .ok (.iload 9, 2) := by decide +kernel
theorem dX2_fitting_126 : decode cX2_fitting 126 = .ok (.ireturn, 1) := by decide +kernel
theorem dX2_keptOf_0 : decode cX2_keptOf 0 = .ok (.iconst 0, 1) := by decide +kernel
theorem dX2_keptOf_1 : decode cX2_keptOf 1 = .ok (.istore 5, 2) := by decide +kernel
theorem dX2_keptOf_3 : decode cX2_keptOf 3 = .ok (.iconst 0, 1) := by decide +kernel
theorem dX2_keptOf_4 : decode cX2_keptOf 4 = .ok (.istore 6, 2) := by decide +kernel
theorem dX2_keptOf_6 : decode cX2_keptOf 6 = .ok (.iload 6, 2) := by decide +kernel
theorem dX2_keptOf_8 : decode cX2_keptOf 8 = .ok (.iconst 1, 1) := by decide +kernel
theorem dX2_keptOf_9 : decode cX2_keptOf 9 = .ok (.iload_n 3, 1) := by decide +kernel
theorem dX2_keptOf_10 : decode cX2_keptOf 10 = .ok (.ishl, 1) := by decide +kernel
theorem dX2_keptOf_11 : decode cX2_keptOf 11 = .ok (.if_icmp .ge 53, 3) := by decide +kernel
theorem dX2_keptOf_14 : decode cX2_keptOf 14 = .ok (.aload_n 0, 1) := by decide +kernel
theorem dX2_keptOf_15 : decode cX2_keptOf 15 = .ok (.aload_n 1, 1) := by decide +kernel
theorem dX2_keptOf_16 : decode cX2_keptOf 16 = .ok (.iload_n 2, 1) := by decide +kernel
theorem dX2_keptOf_17 : decode cX2_keptOf 17 = .ok (.iload_n 3, 1) := by decide +kernel
theorem dX2_keptOf_18 : decode cX2_keptOf 18 = .ok (.iload 6, 2) := by decide +kernel
theorem dX2_keptOf_20 : decode cX2_keptOf 20 = .ok (.invokevirtual 87, 3) := by decide +kernel
theorem dX2_keptOf_23 : decode cX2_keptOf 23 = .ok (.ifCond .eq 35, 3) := by decide +kernel
theorem dX2_keptOf_26 : decode cX2_keptOf 26 = .ok (.iload 6, 2) := by decide +kernel
theorem dX2_keptOf_28 : decode cX2_keptOf 28 = .ok (.invokestatic 59, 3) := by decide +kernel
theorem dX2_keptOf_31 : decode cX2_keptOf 31 = .ok (.istore 7, 2) := by decide +kernel
theorem dX2_keptOf_33 : decode cX2_keptOf 33 = .ok (.iload 5, 2) := by decide +kernel
theorem dX2_keptOf_35 : decode cX2_keptOf 35 = .ok (.iload 4, 2) := by decide +kernel
theorem dX2_keptOf_37 : decode cX2_keptOf 37 = .ok (.iload 7, 2) := by decide +kernel
theorem dX2_keptOf_39 : decode cX2_keptOf 39 = .ok (.invokestatic 91, 3) := by decide +kernel
theorem dX2_keptOf_42 : decode cX2_keptOf 42 = .ok (.bipush 10, 2) := by decide +kernel
theorem dX2_keptOf_44 : decode cX2_keptOf 44 = .ok (.iload 4, 2) := by decide +kernel
theorem dX2_keptOf_46 : decode cX2_keptOf 46 = .ok (.isub, 1) := by decide +kernel
theorem dX2_keptOf_47 : decode cX2_keptOf 47 = .ok (.iload_n 3, 1) := by decide +kernel
theorem dX2_keptOf_48 : decode cX2_keptOf 48 = .ok (.iload 7, 2) := by decide +kernel
theorem dX2_keptOf_50 : decode cX2_keptOf 50 = .ok (.isub, 1) := by decide +kernel
theorem dX2_keptOf_51 : decode cX2_keptOf 51 = .ok (.invokestatic 91, 3) := by decide +kernel
theorem dX2_keptOf_54 : decode cX2_keptOf 54 = .ok (.imul, 1) := by decide +kernel
theorem dX2_keptOf_55 : decode cX2_keptOf 55 = .ok (.iadd, 1) := by decide +kernel
theorem dX2_keptOf_56 : decode cX2_keptOf 56 = .ok (.istore 5, 2) := by decide +kernel
theorem dX2_keptOf_58 : decode cX2_keptOf 58 = .ok (.iinc 6 1, 3) := by decide +kernel
theorem dX2_keptOf_61 : decode cX2_keptOf 61 = .ok (.goto (-55), 3) := by decide +kernel
theorem dX2_keptOf_64 : decode cX2_keptOf 64 = .ok (.iload 5, 2) := by decide +kernel
theorem dX2_keptOf_66 : decode cX2_keptOf 66 = .ok (.ireturn, 1) := by decide +kernel
theorem dX2_behindSummer_0 : decode cX2_behindSummer 0 = .ok (.aload_n 0, 1) := by decide +kernel
theorem dX2_behindSummer_1 : decode cX2_behindSummer 1 = .ok (.getfield 12, 3) := by decide +kernel
theorem dX2_behindSummer_4 : decode cX2_behindSummer 4 = .ok (.aload_n 1, 1) := by decide +kernel
theorem dX2_behindSummer_5 : decode cX2_behindSummer 5 = .ok (.invokevirtual 25, 3) := by decide +kernel
theorem dX2_behindSummer_8 : decode cX2_behindSummer 8 = .ok (.iload_n 3, 1) := by decide +kernel
theorem dX2_behindSummer_9 : decode cX2_behindSummer 9 = .ok (.i2l, 1) := by decide +kernel
theorem dX2_behindSummer_10 : decode cX2_behindSummer 10 = .ok (.lstore 4, 2) := by decide +kernel
theorem dX2_behindSummer_12 : decode cX2_behindSummer 12 = .ok (.iconst 0, 1) := by decide +kernel
theorem dX2_behindSummer_13 : decode cX2_behindSummer 13 = .ok (.istore 6, 2) := by decide +kernel
theorem dX2_behindSummer_15 : decode cX2_behindSummer 15 = .ok (.iload 6, 2) := by decide +kernel
theorem dX2_behindSummer_17 : decode cX2_behindSummer 17 = .ok (.iload_n 2, 1) := by decide +kernel
theorem dX2_behindSummer_18 : decode cX2_behindSummer 18 = .ok (.if_icmp .ge 99, 3) := by decide +kernel
theorem dX2_behindSummer_21 : decode cX2_behindSummer 21 = .ok (.lload 4, 2) := by decide +kernel
theorem dX2_behindSummer_23 : decode cX2_behindSummer 23 = .ok (.ldc2_w 95, 3) := by decide +kernel
theorem dX2_behindSummer_26 : decode cX2_behindSummer 26 = .ok (.lmul, 1) := by decide +kernel
theorem dX2_behindSummer_27 : decode cX2_behindSummer 27 = .ok (.ldc2_w 97, 3) := by decide +kernel
theorem dX2_behindSummer_30 : decode cX2_behindSummer 30 = .ok (.lrem, 1) := by decide +kernel
theorem dX2_behindSummer_31 : decode cX2_behindSummer 31 = .ok (.lstore 4, 2) := by decide +kernel
theorem dX2_behindSummer_33 : decode cX2_behindSummer 33 = .ok (.aload_n 0, 1) := by decide +kernel
theorem dX2_behindSummer_34 : decode cX2_behindSummer 34 = .ok (.getfield 12, 3) := by decide +kernel
theorem dX2_behindSummer_37 : decode cX2_behindSummer 37 = .ok (.lload 4, 2) := by decide +kernel
theorem dX2_behindSummer_39 : decode cX2_behindSummer 39 = .ok (.ldc2_w 99, 3) := by decide +kernel
theorem dX2_behindSummer_42 : decode cX2_behindSummer 42 = .ok (.lrem, 1) := by decide +kernel
theorem dX2_behindSummer_43 : decode cX2_behindSummer 43 = .ok (.l2i, 1) := by decide +kernel
theorem dX2_behindSummer_44 : decode cX2_behindSummer 44 = .ok (.putfield 101, 3) := by decide +kernel
theorem dX2_behindSummer_47 : decode cX2_behindSummer 47 = .ok (.lload 4, 2) := by decide +kernel
theorem dX2_behindSummer_49 : decode cX2_behindSummer 49 = .ok (.ldc2_w 104, 3) := by decide +kernel
theorem dX2_behindSummer_52 : decode cX2_behindSummer 52 = .ok (.lrem, 1) := by decide +kernel
theorem dX2_behindSummer_53 : decode cX2_behindSummer 53 = .ok (.lconst 0, 1) := by decide +kernel
theorem dX2_behindSummer_54 : decode cX2_behindSummer 54 = .ok (.lcmp, 1) := by decide +kernel
theorem dX2_behindSummer_55 : decode cX2_behindSummer 55 = .ok (.ifCond .ne 49, 3) := by decide +kernel
theorem dX2_behindSummer_58 : decode cX2_behindSummer 58 = .ok (.aload_n 0, 1) := by decide +kernel
theorem dX2_behindSummer_59 : decode cX2_behindSummer 59 = .ok (.getfield 12, 3) := by decide +kernel
theorem dX2_behindSummer_62 : decode cX2_behindSummer 62 = .ok (.getfield 55, 3) := by decide +kernel
theorem dX2_behindSummer_65 : decode cX2_behindSummer 65 = .ok (.ifCond .le 39, 3) := by decide +kernel
theorem dX2_behindSummer_68 : decode cX2_behindSummer 68 = .ok (.lload 4, 2) := by decide +kernel
theorem dX2_behindSummer_70 : decode cX2_behindSummer 70 = .ok (.aload_n 0, 1) := by decide +kernel
theorem dX2_behindSummer_71 : decode cX2_behindSummer 71 = .ok (.getfield 12, 3) := by decide +kernel
theorem dX2_behindSummer_74 : decode cX2_behindSummer 74 = .ok (.getfield 55, 3) := by decide +kernel
theorem dX2_behindSummer_77 : decode cX2_behindSummer 77 = .ok (.i2l, 1) := by decide +kernel
theorem dX2_behindSummer_78 : decode cX2_behindSummer 78 = .ok (.lrem, 1) := by decide +kernel
theorem dX2_behindSummer_79 : decode cX2_behindSummer 79 = .ok (.l2i, 1) := by decide +kernel
theorem dX2_behindSummer_80 : decode cX2_behindSummer 80 = .ok (.istore 7, 2) := by decide +kernel
theorem dX2_behindSummer_82 : decode cX2_behindSummer 82 = .ok (.aload_n 0, 1) := by decide +kernel
theorem dX2_behindSummer_83 : decode cX2_behindSummer 83 = .ok (.getfield 12, 3) := by decide +kernel
theorem dX2_behindSummer_86 : decode cX2_behindSummer 86 = .ok (.getfield 106, 3) := by decide +kernel
theorem dX2_behindSummer_89 : decode cX2_behindSummer 89 = .ok (.iload 7, 2) := by decide +kernel
theorem dX2_behindSummer_91 : decode cX2_behindSummer 91 = .ok (.iconst 1, 1) := by decide +kernel
theorem dX2_behindSummer_92 : decode cX2_behindSummer 92 = .ok (.aload_n 0, 1) := by decide +kernel
theorem dX2_behindSummer_93 : decode cX2_behindSummer 93 = .ok (.getfield 12, 3) := by decide +kernel
theorem dX2_behindSummer_96 : decode cX2_behindSummer 96 = .ok (.getfield 106, 3) := by decide +kernel
theorem dX2_behindSummer_99 : decode cX2_behindSummer 99 = .ok (.iload 7, 2) := by decide +kernel
theorem dX2_behindSummer_101 : decode cX2_behindSummer 101 = .ok (.iaload, 1) := by decide +kernel
theorem dX2_behindSummer_102 : decode cX2_behindSummer 102 = .ok (.isub, 1) := by decide +kernel
theorem dX2_behindSummer_103 : decode cX2_behindSummer 103 = .ok (.iastore, 1) := by decide +kernel
theorem dX2_behindSummer_104 : decode cX2_behindSummer 104 = .ok (.aload_n 0, 1) := by decide +kernel
theorem dX2_behindSummer_105 : decode cX2_behindSummer 105 = .ok (.getfield 12, 3) := by decide +kernel
theorem dX2_behindSummer_108 : decode cX2_behindSummer 108 = .ok (.invokevirtual 38, 3) := by decide +kernel
theorem dX2_behindSummer_111 : decode cX2_behindSummer 111 = .ok (.iinc 6 1, 3) := by decide +kernel
theorem dX2_behindSummer_114 : decode cX2_behindSummer 114 = .ok (.goto (-99), 3) := by decide +kernel
theorem dX2_behindSummer_117 : decode cX2_behindSummer 117 = .ok (.aload_n 0, 1) := by decide +kernel
theorem dX2_behindSummer_118 : decode cX2_behindSummer 118 = .ok (.getfield 12, 3) := by decide +kernel
theorem dX2_behindSummer_121 : decode cX2_behindSummer 121 = .ok (.areturn, 1) := by decide +kernel
theorem dX2_passDays_0 : decode cX2_passDays 0 = .ok (.iconst 0, 1) := by decide +kernel
theorem dX2_passDays_1 : decode cX2_passDays 1 = .ok (.istore_n 2, 1) := by decide +kernel
theorem dX2_passDays_2 : decode cX2_passDays 2 = .ok (.iload_n 2, 1) := by decide +kernel
theorem dX2_passDays_3 : decode cX2_passDays 3 = .ok (.iload_n 1, 1) := by decide +kernel
theorem dX2_passDays_4 : decode cX2_passDays 4 = .ok (.if_icmp .ge 16, 3) := by decide +kernel
theorem dX2_passDays_7 : decode cX2_passDays 7 = .ok (.aload_n 0, 1) := by decide +kernel
theorem dX2_passDays_8 : decode cX2_passDays 8 = .ok (.getfield 12, 3) := by decide +kernel
theorem dX2_passDays_11 : decode cX2_passDays 11 = .ok (.invokevirtual 38, 3) := by decide +kernel
theorem dX2_passDays_14 : decode cX2_passDays 14 = .ok (.iinc 2 1, 3) := by decide +kernel
theorem dX2_passDays_17 : decode cX2_passDays 17 = .ok (.goto (-15), 3) := by decide +kernel
theorem dX2_passDays_20 : decode cX2_passDays 20 = .ok (.return_, 1) := by decide +kernel
theorem dX2_passWaiting_0 : decode cX2_passWaiting 0 = .ok (.aload_n 0, 1) := by decide +kernel
theorem dX2_passWaiting_1 : decode cX2_passWaiting 1 = .ok (.getfield 12, 3) := by decide +kernel
theorem dX2_passWaiting_4 : decode cX2_passWaiting 4 = .ok (.getfield 106, 3) := by decide +kernel
theorem dX2_passWaiting_7 : decode cX2_passWaiting 7 = .ok (.iload_n 1, 1) := by decide +kernel
theorem dX2_passWaiting_8 : decode cX2_passWaiting 8 = .ok (.iconst 1, 1) := by decide +kernel
theorem dX2_passWaiting_9 : decode cX2_passWaiting 9 = .ok (.iastore, 1) := by decide +kernel
theorem dX2_passWaiting_10 : decode cX2_passWaiting 10 = .ok (.aload_n 0, 1) := by decide +kernel
theorem dX2_passWaiting_11 : decode cX2_passWaiting 11 = .ok (.getfield 12, 3) := by decide +kernel
theorem dX2_passWaiting_14 : decode cX2_passWaiting 14 = .ok (.getfield 106, 3) := by decide +kernel
theorem dX2_passWaiting_17 : decode cX2_passWaiting 17 = .ok (.iload_n 3, 1) := by decide +kernel
theorem dX2_passWaiting_18 : decode cX2_passWaiting 18 = .ok (.iconst 1, 1) := by decide +kernel
theorem dX2_passWaiting_19 : decode cX2_passWaiting 19 = .ok (.iastore, 1) := by decide +kernel
theorem dX2_passWaiting_20 : decode cX2_passWaiting 20 = .ok (.iconst 0, 1) := by decide +kernel
theorem dX2_passWaiting_21 : decode cX2_passWaiting 21 = .ok (.istore 6, 2) := by decide +kernel
theorem dX2_passWaiting_23 : decode cX2_passWaiting 23 = .ok (.iload 6, 2) := by decide +kernel
theorem dX2_passWaiting_25 : decode cX2_passWaiting 25 = .ok (.iload 5, 2) := by decide +kernel
theorem dX2_passWaiting_27 : decode cX2_passWaiting 27 = .ok (.if_icmp .ge 49, 3) := by decide +kernel
theorem dX2_passWaiting_30 : decode cX2_passWaiting 30 = .ok (.iload 6, 2) := by decide +kernel
theorem dX2_passWaiting_32 : decode cX2_passWaiting 32 = .ok (.iload_n 2, 1) := by decide +kernel
theorem dX2_passWaiting_33 : decode cX2_passWaiting 33 = .ok (.if_icmp .ne 13, 3) := by decide +kernel
theorem dX2_passWaiting_36 : decode cX2_passWaiting 36 = .ok (.aload_n 0, 1) := by decide +kernel
theorem dX2_passWaiting_37 : decode cX2_passWaiting 37 = .ok (.getfield 12, 3) := by decide +kernel
theorem dX2_passWaiting_40 : decode cX2_passWaiting 40 = .ok (.getfield 106, 3) := by decide +kernel
theorem dX2_passWaiting_43 : decode cX2_passWaiting 43 = .ok (.iload_n 1, 1) := by decide +kernel
theorem dX2_passWaiting_44 : decode cX2_passWaiting 44 = .ok (.iconst 0, 1) := by decide +kernel
theorem dX2_passWaiting_45 : decode cX2_passWaiting 45 = .ok (.iastore, 1) := by decide +kernel
theorem dX2_passWaiting_46 : decode cX2_passWaiting 46 = .ok (.iload 6, 2) := by decide +kernel
theorem dX2_passWaiting_48 : decode cX2_passWaiting 48 = .ok (.iload 4, 2) := by decide +kernel
theorem dX2_passWaiting_50 : decode cX2_passWaiting 50 = .ok (.if_icmp .ne 13, 3) := by decide +kernel
theorem dX2_passWaiting_53 : decode cX2_passWaiting 53 = .ok (.aload_n 0, 1) := by decide +kernel
theorem dX2_passWaiting_54 : decode cX2_passWaiting 54 = .ok (.getfield 12, 3) := by decide +kernel
theorem dX2_passWaiting_57 : decode cX2_passWaiting 57 = .ok (.getfield 106, 3) := by decide +kernel
theorem dX2_passWaiting_60 : decode cX2_passWaiting 60 = .ok (.iload_n 3, 1) := by decide +kernel
theorem dX2_passWaiting_61 : decode cX2_passWaiting 61 = .ok (.iconst 0, 1) := by decide +kernel
theorem dX2_passWaiting_62 : decode cX2_passWaiting 62 = .ok (.iastore, 1) := by decide +kernel
theorem dX2_passWaiting_63 : decode cX2_passWaiting 63 = .ok (.aload_n 0, 1) := by decide +kernel
theorem dX2_passWaiting_64 : decode cX2_passWaiting 64 = .ok (.getfield 12, 3) := by decide +kernel
theorem dX2_passWaiting_67 : decode cX2_passWaiting 67 = .ok (.invokevirtual 38, 3) := by decide +kernel
theorem dX2_passWaiting_70 : decode cX2_passWaiting 70 = .ok (.iinc 6 1, 3) := by decide +kernel
theorem dX2_passWaiting_73 : decode cX2_passWaiting 73 = .ok (.goto (-50), 3) := by decide +kernel
theorem dX2_passWaiting_76 : decode cX2_passWaiting 76 = .ok (.return_, 1) := by decide +kernel
theorem dX2_lightsAll_0 : decode cX2_lightsAll 0 = .ok (.aload_n 0, 1) := by decide +kernel
theorem dX2_lightsAll_1 : decode cX2_lightsAll 1 = .ok (.getfield 12, 3) := by decide +kernel
theorem dX2_lightsAll_4 : decode cX2_lightsAll 4 = .ok (.aload_n 1, 1) := by decide +kernel
theorem dX2_lightsAll_5 : decode cX2_lightsAll 5 = .ok (.invokevirtual 25, 3) := by decide +kernel
theorem dX2_lightsAll_8 : decode cX2_lightsAll 8 = .ok (.iconst 0, 1) := by decide +kernel
theorem dX2_lightsAll_9 : decode cX2_lightsAll 9 = .ok (.istore 4, 2) := by decide +kernel
theorem dX2_lightsAll_11 : decode cX2_lightsAll 11 = .ok (.iload 4, 2) := by decide +kernel
theorem dX2_lightsAll_13 : decode cX2_lightsAll 13 = .ok (.aload_n 0, 1) := by decide +kernel
theorem dX2_lightsAll_14 : decode cX2_lightsAll 14 = .ok (.getfield 12, 3) := by decide +kernel
theorem dX2_lightsAll_17 : decode cX2_lightsAll 17 = .ok (.getfield 55, 3) := by decide +kernel
theorem dX2_lightsAll_20 : decode cX2_lightsAll 20 = .ok (.if_icmp .ge 30, 3) := by decide +kernel
theorem dX2_lightsAll_23 : decode cX2_lightsAll 23 = .ok (.iload_n 2, 1) := by decide +kernel
theorem dX2_lightsAll_24 : decode cX2_lightsAll 24 = .ok (.iload 4, 2) := by decide +kernel
theorem dX2_lightsAll_26 : decode cX2_lightsAll 26 = .ok (.ishr, 1) := by decide +kernel
theorem dX2_lightsAll_27 : decode cX2_lightsAll 27 = .ok (.iconst 1, 1) := by decide +kernel
theorem dX2_lightsAll_28 : decode cX2_lightsAll 28 = .ok (.iand, 1) := by decide +kernel
theorem dX2_lightsAll_29 : decode cX2_lightsAll 29 = .ok (.iconst 1, 1) := by decide +kernel
theorem dX2_lightsAll_30 : decode cX2_lightsAll 30 = .ok (.if_icmp .ne 14, 3) := by decide +kernel
theorem dX2_lightsAll_33 : decode cX2_lightsAll 33 = .ok (.aload_n 0, 1) := by decide +kernel
theorem dX2_lightsAll_34 : decode cX2_lightsAll 34 = .ok (.getfield 12, 3) := by decide +kernel
theorem dX2_lightsAll_37 : decode cX2_lightsAll 37 = .ok (.getfield 106, 3) := by decide +kernel
theorem dX2_lightsAll_40 : decode cX2_lightsAll 40 = .ok (.iload 4, 2) := by decide +kernel
theorem dX2_lightsAll_42 : decode cX2_lightsAll 42 = .ok (.iconst 0, 1) := by decide +kernel
theorem dX2_lightsAll_43 : decode cX2_lightsAll 43 = .ok (.iastore, 1) := by decide +kernel
theorem dX2_lightsAll_44 : decode cX2_lightsAll 44 = .ok (.iinc 4 1, 3) := by decide +kernel
theorem dX2_lightsAll_47 : decode cX2_lightsAll 47 = .ok (.goto (-36), 3) := by decide +kernel
theorem dX2_lightsAll_50 : decode cX2_lightsAll 50 = .ok (.aload_n 0, 1) := by decide +kernel
theorem dX2_lightsAll_51 : decode cX2_lightsAll 51 = .ok (.iload_n 3, 1) := by decide +kernel
theorem dX2_lightsAll_52 : decode cX2_lightsAll 52 = .ok (.invokevirtual 29, 3) := by decide +kernel
theorem dX2_lightsAll_55 : decode cX2_lightsAll 55 = .ok (.aload_n 0, 1) := by decide +kernel
theorem dX2_lightsAll_56 : decode cX2_lightsAll 56 = .ok (.getfield 12, 3) := by decide +kernel
theorem dX2_lightsAll_59 : decode cX2_lightsAll 59 = .ok (.invokevirtual 109, 3) := by decide +kernel
theorem dX2_lightsAll_62 : decode cX2_lightsAll 62 = .ok (.ireturn, 1) := by decide +kernel
theorem dX2_isRest_0 : decode cX2_isRest 0 = .ok (.iload_n 1, 1) := by decide +kernel
theorem dX2_isRest_1 : decode cX2_isRest 1 = .ok (.iconst 5, 1) := by decide +kernel
theorem dX2_isRest_2 : decode cX2_isRest 2 = .ok (.imul, 1) := by decide +kernel
theorem dX2_isRest_3 : decode cX2_isRest 3 = .ok (.iload_n 2, 1) := by decide +kernel
theorem dX2_isRest_4 : decode cX2_isRest 4 = .ok (.iadd, 1) := by decide +kernel
theorem dX2_isRest_5 : decode cX2_isRest 5 = .ok (.istore_n 3, 1) := by decide +kernel
theorem dX2_isRest_6 : decode cX2_isRest 6 = .ok (.iconst 0, 1) := by decide +kernel
theorem dX2_isRest_7 : decode cX2_isRest 7 = .ok (.istore 4, 2) := by decide +kernel
theorem dX2_isRest_9 : decode cX2_isRest 9 = .ok (.iload 4, 2) := by decide +kernel
theorem dX2_isRest_11 : decode cX2_isRest 11 = .ok (.iconst 5, 1) := by decide +kernel
theorem dX2_isRest_12 : decode cX2_isRest 12 = .ok (.if_icmp .ge 51, 3) := by decide +kernel
theorem dX2_isRest_15 : decode cX2_isRest 15 = .ok (.aload_n 0, 1) := by decide +kernel
theorem dX2_isRest_16 : decode cX2_isRest 16 = .ok (.getfield 18, 3) := by decide +kernel
theorem dX2_isRest_19 : decode cX2_isRest 19 = .ok (.iload 4, 2) := by decide +kernel
theorem dX2_isRest_21 : decode cX2_isRest 21 = .ok (.iconst 5, 1) := by decide +kernel
theorem dX2_isRest_22 : decode cX2_isRest 22 = .ok (.imul, 1) := by decide +kernel
theorem dX2_isRest_23 : decode cX2_isRest 23 = .ok (.iload_n 2, 1) := by decide +kernel
theorem dX2_isRest_24 : decode cX2_isRest 24 = .ok (.iadd, 1) := by decide +kernel
theorem dX2_isRest_25 : decode cX2_isRest 25 = .ok (.iaload, 1) := by decide +kernel
theorem dX2_isRest_26 : decode cX2_isRest 26 = .ok (.aload_n 0, 1) := by decide +kernel
theorem dX2_isRest_27 : decode cX2_isRest 27 = .ok (.getfield 18, 3) := by decide +kernel
theorem dX2_isRest_30 : decode cX2_isRest 30 = .ok (.iload_n 3, 1) := by decide +kernel
theorem dX2_isRest_31 : decode cX2_isRest 31 = .ok (.iaload, 1) := by decide +kernel
theorem dX2_isRest_32 : decode cX2_isRest 32 = .ok (.if_icmp .gt 23, 3) := by decide +kernel
theorem dX2_isRest_35 : decode cX2_isRest 35 = .ok (.aload_n 0, 1) := by decide +kernel
theorem dX2_isRest_36 : decode cX2_isRest 36 = .ok (.getfield 22, 3) := by decide +kernel
theorem dX2_isRest_39 : decode cX2_isRest 39 = .ok (.iload_n 1, 1) := by decide +kernel
theorem dX2_isRest_40 : decode cX2_isRest 40 = .ok (.iconst 5, 1) := by decide +kernel
theorem dX2_isRest_41 : decode cX2_isRest 41 = .ok (.imul, 1) := by decide +kernel
theorem dX2_isRest_42 : decode cX2_isRest 42 = .ok (.iload 4, 2) := by decide +kernel
theorem dX2_isRest_44 : decode cX2_isRest 44 = .ok (.iadd, 1) := by decide +kernel
theorem dX2_isRest_45 : decode cX2_isRest 45 = .ok (.iaload, 1) := by decide +kernel
theorem dX2_isRest_46 : decode cX2_isRest 46 = .ok (.aload_n 0, 1) := by decide +kernel
theorem dX2_isRest_47 : decode cX2_isRest 47 = .ok (.getfield 22, 3) := by decide +kernel
theorem dX2_isRest_50 : decode cX2_isRest 50 = .ok (.iload_n 3, 1) := by decide +kernel
theorem dX2_isRest_51 : decode cX2_isRest 51 = .ok (.iaload, 1) := by decide +kernel
theorem dX2_isRest_52 : decode cX2_isRest 52 = .ok (.if_icmp .le 5, 3) := by decide +kernel
theorem dX2_isRest_55 : decode cX2_isRest 55 = .ok (.iconst 0, 1) := by decide +kernel
theorem dX2_isRest_56 : decode cX2_isRest 56 = .ok (.ireturn, 1) := by decide +kernel
theorem dX2_isRest_57 : decode cX2_isRest 57 = .ok (.iinc 4 1, 3) := by decide +kernel
theorem dX2_isRest_60 : decode cX2_isRest 60 = .ok (.goto (-51), 3) := by decide +kernel
theorem dX2_isRest_63 : decode cX2_isRest 63 = .ok (.iconst 1, 1) := by decide +kernel
theorem dX2_isRest_64 : decode cX2_isRest 64 = .ok (.ireturn, 1) := by decide +kernel
theorem dX2_suppose_0 : decode cX2_suppose 0 = .ok (.iload_n 2, 1) := by decide +kernel
theorem dX2_suppose_1 : decode cX2_suppose 1 = .ok (.tableswitch 64 0 2 #[27, 40, 51], 27) := by decide +kernel
theorem dX2_suppose_28 : decode cX2_suppose 28 = .ok (.aload_n 0, 1) := by decide +kernel
theorem dX2_suppose_29 : decode cX2_suppose 29 = .ok (.getfield 12, 3) := by decide +kernel
theorem dX2_suppose_32 : decode cX2_suppose 32 = .ok (.getfield 113, 3) := by decide +kernel
theorem dX2_suppose_35 : decode cX2_suppose 35 = .ok (.iload_n 1, 1) := by decide +kernel
theorem dX2_suppose_36 : decode cX2_suppose 36 = .ok (.iload_n 3, 1) := by decide +kernel
theorem dX2_suppose_37 : decode cX2_suppose 37 = .ok (.iastore, 1) := by decide +kernel
theorem dX2_suppose_38 : decode cX2_suppose 38 = .ok (.goto 37, 3) := by decide +kernel
theorem dX2_suppose_41 : decode cX2_suppose 41 = .ok (.aload_n 0, 1) := by decide +kernel
theorem dX2_suppose_42 : decode cX2_suppose 42 = .ok (.getfield 12, 3) := by decide +kernel
theorem dX2_suppose_45 : decode cX2_suppose 45 = .ok (.iload_n 3, 1) := by decide +kernel
theorem dX2_suppose_46 : decode cX2_suppose 46 = .ok (.putfield 101, 3) := by decide +kernel
theorem dX2_suppose_49 : decode cX2_suppose 49 = .ok (.goto 26, 3) := by decide +kernel
theorem dX2_suppose_52 : decode cX2_suppose 52 = .ok (.aload_n 0, 1) := by decide +kernel
theorem dX2_suppose_53 : decode cX2_suppose 53 = .ok (.getfield 12, 3) := by decide +kernel
theorem dX2_suppose_56 : decode cX2_suppose 56 = .ok (.getfield 106, 3) := by decide +kernel
theorem dX2_suppose_59 : decode cX2_suppose 59 = .ok (.iload_n 1, 1) := by decide +kernel
theorem dX2_suppose_60 : decode cX2_suppose 60 = .ok (.iload_n 3, 1) := by decide +kernel
theorem dX2_suppose_61 : decode cX2_suppose 61 = .ok (.iastore, 1) := by decide +kernel
theorem dX2_suppose_62 : decode cX2_suppose 62 = .ok (.goto 13, 3) := by decide +kernel
theorem dX2_suppose_65 : decode cX2_suppose 65 = .ok (.aload_n 0, 1) := by decide +kernel
theorem dX2_suppose_66 : decode cX2_suppose 66 = .ok (.getfield 12, 3) := by decide +kernel
theorem dX2_suppose_69 : decode cX2_suppose 69 = .ok (.getfield 116, 3) := by decide +kernel
theorem dX2_suppose_72 : decode cX2_suppose 72 = .ok (.iload_n 1, 1) := by decide +kernel
theorem dX2_suppose_73 : decode cX2_suppose 73 = .ok (.iload_n 3, 1) := by decide +kernel
theorem dX2_suppose_74 : decode cX2_suppose 74 = .ok (.iastore, 1) := by decide +kernel
theorem dX2_suppose_75 : decode cX2_suppose 75 = .ok (.return_, 1) := by decide +kernel
theorem dX2_isTold_0 : decode cX2_isTold 0 = .ok (.iconst 0, 1) := by decide +kernel
theorem dX2_isTold_1 : decode cX2_isTold 1 = .ok (.istore 5, 2) := by decide +kernel
theorem dX2_isTold_3 : decode cX2_isTold 3 = .ok (.iload 5, 2) := by decide +kernel
theorem dX2_isTold_5 : decode cX2_isTold 5 = .ok (.iload 4, 2) := by decide +kernel
theorem dX2_isTold_7 : decode cX2_isTold 7 = .ok (.if_icmp .ge 36, 3) := by decide +kernel
theorem dX2_isTold_10 : decode cX2_isTold 10 = .ok (.aload_n 0, 1) := by decide +kernel
theorem dX2_isTold_11 : decode cX2_isTold 11 = .ok (.getfield 12, 3) := by decide +kernel
theorem dX2_isTold_14 : decode cX2_isTold 14 = .ok (.invokevirtual 38, 3) := by decide +kernel
theorem dX2_isTold_17 : decode cX2_isTold 17 = .ok (.aload_n 0, 1) := by decide +kernel
theorem dX2_isTold_18 : decode cX2_isTold 18 = .ok (.getfield 12, 3) := by decide +kernel
theorem dX2_isTold_21 : decode cX2_isTold 21 = .ok (.getfield 116, 3) := by decide +kernel
theorem dX2_isTold_24 : decode cX2_isTold 24 = .ok (.iload_n 1, 1) := by decide +kernel
theorem dX2_isTold_25 : decode cX2_isTold 25 = .ok (.iaload, 1) := by decide +kernel
theorem dX2_isTold_26 : decode cX2_isTold 26 = .ok (.aload_n 2, 1) := by decide +kernel
theorem dX2_isTold_27 : decode cX2_isTold 27 = .ok (.iload_n 3, 1) := by decide +kernel
theorem dX2_isTold_28 : decode cX2_isTold 28 = .ok (.iload 5, 2) := by decide +kernel
theorem dX2_isTold_30 : decode cX2_isTold 30 = .ok (.iadd, 1) := by decide +kernel
theorem dX2_isTold_31 : decode cX2_isTold 31 = .ok (.iaload, 1) := by decide +kernel
theorem dX2_isTold_32 : decode cX2_isTold 32 = .ok (.if_icmp .eq 5, 3) := by decide +kernel
theorem dX2_isTold_35 : decode cX2_isTold 35 = .ok (.iconst 0, 1) := by decide +kernel
theorem dX2_isTold_36 : decode cX2_isTold 36 = .ok (.ireturn, 1) := by decide +kernel
theorem dX2_isTold_37 : decode cX2_isTold 37 = .ok (.iinc 5 1, 3) := by decide +kernel
theorem dX2_isTold_40 : decode cX2_isTold 40 = .ok (.goto (-37), 3) := by decide +kernel
theorem dX2_isTold_43 : decode cX2_isTold 43 = .ok (.iconst 1, 1) := by decide +kernel
theorem dX2_isTold_44 : decode cX2_isTold 44 = .ok (.ireturn, 1) := by decide +kernel
theorem dX2_isKept_0 : decode cX2_isKept 0 = .ok (.aload_n 0, 1) := by decide +kernel
theorem dX2_isKept_1 : decode cX2_isKept 1 = .ok (.getfield 12, 3) := by decide +kernel
theorem dX2_isKept_4 : decode cX2_isKept 4 = .ok (.aload_n 1, 1) := by decide +kernel
theorem dX2_isKept_5 : decode cX2_isKept 5 = .ok (.invokevirtual 25, 3) := by decide +kernel
theorem dX2_isKept_8 : decode cX2_isKept 8 = .ok (.iconst 0, 1) := by decide +kernel
theorem dX2_isKept_9 : decode cX2_isKept 9 = .ok (.istore 5, 2) := by decide +kernel
theorem dX2_isKept_11 : decode cX2_isKept 11 = .ok (.iload 5, 2) := by decide +kernel
theorem dX2_isKept_13 : decode cX2_isKept 13 = .ok (.iload_n 3, 1) := by decide +kernel
theorem dX2_isKept_14 : decode cX2_isKept 14 = .ok (.if_icmp .ge 40, 3) := by decide +kernel
theorem dX2_isKept_17 : decode cX2_isKept 17 = .ok (.aload_n 0, 1) := by decide +kernel
theorem dX2_isKept_18 : decode cX2_isKept 18 = .ok (.getfield 12, 3) := by decide +kernel
theorem dX2_isKept_21 : decode cX2_isKept 21 = .ok (.iload 4, 2) := by decide +kernel
theorem dX2_isKept_23 : decode cX2_isKept 23 = .ok (.iload 5, 2) := by decide +kernel
theorem dX2_isKept_25 : decode cX2_isKept 25 = .ok (.ishr, 1) := by decide +kernel
theorem dX2_isKept_26 : decode cX2_isKept 26 = .ok (.iconst 1, 1) := by decide +kernel
theorem dX2_isKept_27 : decode cX2_isKept 27 = .ok (.iand, 1) := by decide +kernel
theorem dX2_isKept_28 : decode cX2_isKept 28 = .ok (.iconst 1, 1) := by decide +kernel
theorem dX2_isKept_29 : decode cX2_isKept 29 = .ok (.if_icmp .ne 8, 3) := by decide +kernel
theorem dX2_isKept_32 : decode cX2_isKept 32 = .ok (.bipush 15, 2) := by decide +kernel
theorem dX2_isKept_34 : decode cX2_isKept 34 = .ok (.goto 4, 3) := by decide +kernel
theorem dX2_isKept_37 : decode cX2_isKept 37 = .ok (.iconst 0, 1) := by decide +kernel
theorem dX2_isKept_38 : decode cX2_isKept 38 = .ok (.putfield 101, 3) := by decide +kernel
theorem dX2_isKept_41 : decode cX2_isKept 41 = .ok (.aload_n 0, 1) := by decide +kernel
theorem dX2_isKept_42 : decode cX2_isKept 42 = .ok (.getfield 12, 3) := by decide +kernel
theorem dX2_isKept_45 : decode cX2_isKept 45 = .ok (.invokevirtual 38, 3) := by decide +kernel
theorem dX2_isKept_48 : decode cX2_isKept 48 = .ok (.iinc 5 1, 3) := by decide +kernel
theorem dX2_isKept_51 : decode cX2_isKept 51 = .ok (.goto (-40), 3) := by decide +kernel
theorem dX2_isKept_54 : decode cX2_isKept 54 = .ok (.aload_n 0, 1) := by decide +kernel
theorem dX2_isKept_55 : decode cX2_isKept 55 = .ok (.getfield 12, 3) := by decide +kernel
theorem dX2_isKept_58 : decode cX2_isKept 58 = .ok (.getfield 116, 3) := by decide +kernel
theorem dX2_isKept_61 : decode cX2_isKept 61 = .ok (.iload_n 2, 1) := by decide +kernel
theorem dX2_isKept_62 : decode cX2_isKept 62 = .ok (.iaload, 1) := by decide +kernel
theorem dX2_isKept_63 : decode cX2_isKept 63 = .ok (.ifCond .le 7, 3) := by decide +kernel
theorem dX2_isKept_66 : decode cX2_isKept 66 = .ok (.iconst 1, 1) := by decide +kernel
theorem dX2_isKept_67 : decode cX2_isKept 67 = .ok (.goto 4, 3) := by decide +kernel
theorem dX2_isKept_70 : decode cX2_isKept 70 = .ok (.iconst 0, 1) := by decide +kernel
theorem dX2_isKept_71 : decode cX2_isKept 71 = .ok (.ireturn, 1) := by decide +kernel
theorem dX3_init_0 : decode cX3_init 0 = .ok (.aload_n 0, 1) := by decide +kernel
theorem dX3_init_1 : decode cX3_init 1 = .ok (.invokespecial 3, 3) := by decide +kernel
theorem dX3_init_4 : decode cX3_init 4 = .ok (.aload_n 0, 1) := by decide +kernel
theorem dX3_init_5 : decode cX3_init 5 = .ok (.bipush 8, 2) := by decide +kernel
theorem dX3_init_7 : decode cX3_init 7 = .ok (.newarray .int, 2) := by decide +kernel
theorem dX3_init_9 : decode cX3_init 9 = .ok (.putfield 11, 3) := by decide +kernel
theorem dX3_init_12 : decode cX3_init 12 = .ok (.aload_n 0, 1) := by decide +kernel
theorem dX3_init_13 : decode cX3_init 13 = .ok (.bipush 7, 2) := by decide +kernel
theorem dX3_init_15 : decode cX3_init 15 = .ok (.newarray .int, 2) := by decide +kernel
theorem dX3_init_17 : decode cX3_init 17 = .ok (.putfield 15, 3) := by decide +kernel
theorem dX3_init_20 : decode cX3_init 20 = .ok (.aload_n 0, 1) := by decide +kernel
theorem dX3_init_21 : decode cX3_init 21 = .ok (.bipush 7, 2) := by decide +kernel
theorem dX3_init_23 : decode cX3_init 23 = .ok (.newarray .int, 2) := by decide +kernel
theorem dX3_init_25 : decode cX3_init 25 = .ok (.putfield 18, 3) := by decide +kernel
theorem dX3_init_28 : decode cX3_init 28 = .ok (.aload_n 0, 1) := by decide +kernel
theorem dX3_init_29 : decode cX3_init 29 = .ok (.bipush 7, 2) := by decide +kernel
theorem dX3_init_31 : decode cX3_init 31 = .ok (.newarray .int, 2) := by decide +kernel
theorem dX3_init_33 : decode cX3_init 33 = .ok (.putfield 21, 3) := by decide +kernel
