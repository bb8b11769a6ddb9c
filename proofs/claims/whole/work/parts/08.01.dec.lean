theorem dX3_init_36 : decode cX3_init 36 = .ok (.aload_n 0, 1) := by decide +kernel
theorem dX3_init_37 : decode cX3_init 37 = .ok (.bipush 7, 2) := by decide +kernel
theorem dX3_init_39 : decode cX3_init 39 = .ok (.newarray .int, 2) := by decide +kernel
theorem dX3_init_41 : decode cX3_init 41 = .ok (.putfield 24, 3) := by decide +kernel
theorem dX3_init_44 : decode cX3_init 44 = .ok (.aload_n 0, 1) := by decide +kernel
theorem dX3_init_45 : decode cX3_init 45 = .ok (.bipush 8, 2) := by decide +kernel
theorem dX3_init_47 : decode cX3_init 47 = .ok (.newarray .int, 2) := by decide +kernel
theorem dX3_init_49 : decode cX3_init 49 = .ok (.putfield 27, 3) := by decide +kernel
theorem dX3_init_52 : decode cX3_init 52 = .ok (.return_, 1) := by decide +kernel
theorem dX3_stands_0 : decode cX3_stands 0 = .ok (.aload_n 0, 1) := by decide +kernel
theorem dX3_stands_1 : decode cX3_stands 1 = .ok (.getfield 30, 3) := by decide +kernel
theorem dX3_stands_4 : decode cX3_stands 4 = .ok (.ifCond .le 7, 3) := by decide +kernel
theorem dX3_stands_7 : decode cX3_stands 7 = .ok (.iconst 1, 1) := by decide +kernel
theorem dX3_stands_8 : decode cX3_stands 8 = .ok (.goto 4, 3) := by decide +kernel
theorem dX3_stands_11 : decode cX3_stands 11 = .ok (.iconst 0, 1) := by decide +kernel
theorem dX3_stands_12 : decode cX3_stands 12 = .ok (.ireturn, 1) := by decide +kernel
theorem dX3_become_0 : decode cX3_become 0 = .ok (.aload_n 0, 1) := by decide +kernel
theorem dX3_become_1 : decode cX3_become 1 = .ok (.aload_n 1, 1) := by decide +kernel
theorem dX3_become_2 : decode cX3_become 2 = .ok (.getfield 34, 3) := by decide +kernel
theorem dX3_become_5 : decode cX3_become 5 = .ok (.putfield 34, 3) := by decide +kernel
theorem dX3_become_8 : decode cX3_become 8 = .ok (.aload_n 0, 1) := by decide +kernel
theorem dX3_become_9 : decode cX3_become 9 = .ok (.aload_n 1, 1) := by decide +kernel
theorem dX3_become_10 : decode cX3_become 10 = .ok (.getfield 37, 3) := by decide +kernel
theorem dX3_become_13 : decode cX3_become 13 = .ok (.putfield 37, 3) := by decide +kernel
theorem dX3_become_16 : decode cX3_become 16 = .ok (.aload_n 0, 1) := by decide +kernel
theorem dX3_become_17 : decode cX3_become 17 = .ok (.aload_n 1, 1) := by decide +kernel
theorem dX3_become_18 : decode cX3_become 18 = .ok (.getfield 40, 3) := by decide +kernel
theorem dX3_become_21 : decode cX3_become 21 = .ok (.putfield 40, 3) := by decide +kernel
theorem dX3_become_24 : decode cX3_become 24 = .ok (.aload_n 0, 1) := by decide +kernel
theorem dX3_become_25 : decode cX3_become 25 = .ok (.aload_n 1, 1) := by decide +kernel
theorem dX3_become_26 : decode cX3_become 26 = .ok (.getfield 30, 3) := by decide +kernel
theorem dX3_become_29 : decode cX3_become 29 = .ok (.putfield 30, 3) := by decide +kernel
theorem dX3_become_32 : decode cX3_become 32 = .ok (.aload_n 0, 1) := by decide +kernel
theorem dX3_become_33 : decode cX3_become 33 = .ok (.aload_n 1, 1) := by decide +kernel
theorem dX3_become_34 : decode cX3_become 34 = .ok (.getfield 43, 3) := by decide +kernel
theorem dX3_become_37 : decode cX3_become 37 = .ok (.putfield 43, 3) := by decide +kernel
theorem dX3_become_40 : decode cX3_become 40 = .ok (.aload_n 1, 1) := by decide +kernel
theorem dX3_become_41 : decode cX3_become 41 = .ok (.getfield 11, 3) := by decide +kernel
theorem dX3_become_44 : decode cX3_become 44 = .ok (.iconst 0, 1) := by decide +kernel
theorem dX3_become_45 : decode cX3_become 45 = .ok (.aload_n 0, 1) := by decide +kernel
theorem dX3_become_46 : decode cX3_become 46 = .ok (.getfield 11, 3) := by decide +kernel
theorem dX3_become_49 : decode cX3_become 49 = .ok (.iconst 0, 1) := by decide +kernel
theorem dX3_become_50 : decode cX3_become 50 = .ok (.bipush 8, 2) := by decide +kernel
theorem dX3_become_52 : decode cX3_become 52 = .ok (.invokestatic 46, 3) := by decide +kernel
theorem dX3_become_55 : decode cX3_become 55 = .ok (.aload_n 1, 1) := by decide +kernel
theorem dX3_become_56 : decode cX3_become 56 = .ok (.getfield 15, 3) := by decide +kernel
theorem dX3_become_59 : decode cX3_become 59 = .ok (.iconst 0, 1) := by decide +kernel
theorem dX3_become_60 : decode cX3_become 60 = .ok (.aload_n 0, 1) := by decide +kernel
theorem dX3_become_61 : decode cX3_become 61 = .ok (.getfield 15, 3) := by decide +kernel
theorem dX3_become_64 : decode cX3_become 64 = .ok (.iconst 0, 1) := by decide +kernel
theorem dX3_become_65 : decode cX3_become 65 = .ok (.bipush 7, 2) := by decide +kernel
theorem dX3_become_67 : decode cX3_become 67 = .ok (.invokestatic 46, 3) := by decide +kernel
theorem dX3_become_70 : decode cX3_become 70 = .ok (.aload_n 1, 1) := by decide +kernel
theorem dX3_become_71 : decode cX3_become 71 = .ok (.getfield 18, 3) := by decide +kernel
theorem dX3_become_74 : decode cX3_become 74 = .ok (.iconst 0, 1) := by decide +kernel
theorem dX3_become_75 : decode cX3_become 75 = .ok (.aload_n 0, 1) := by decide +kernel
theorem dX3_become_76 : decode cX3_become 76 = .ok (.getfield 18, 3) := by decide +kernel
theorem dX3_become_79 : decode cX3_become 79 = .ok (.iconst 0, 1) := by decide +kernel
theorem dX3_become_80 : decode cX3_become 80 = .ok (.bipush 7, 2) := by decide +kernel
theorem dX3_become_82 : decode cX3_become 82 = .ok (.invokestatic 46, 3) := by decide +kernel
theorem dX3_become_85 : decode cX3_become 85 = .ok (.aload_n 1, 1) := by decide +kernel
theorem dX3_become_86 : decode cX3_become 86 = .ok (.getfield 21, 3) := by decide +kernel
theorem dX3_become_89 : decode cX3_become 89 = .ok (.iconst 0, 1) := by decide +kernel
theorem dX3_become_90 : decode cX3_become 90 = .ok (.aload_n 0, 1) := by decide +kernel
theorem dX3_become_91 : decode cX3_become 91 = .ok (.getfield 21, 3) := by decide +kernel
theorem dX3_become_94 : decode cX3_become 94 = .ok (.iconst 0, 1) := by decide +kernel
theorem dX3_become_95 : decode cX3_become 95 = .ok (.bipush 7, 2) := by decide +kernel
theorem dX3_become_97 : decode cX3_become 97 = .ok (.invokestatic 46, 3) := by decide +kernel
theorem dX3_become_100 : decode cX3_become 100 = .ok (.aload_n 1, 1) := by decide +kernel
theorem dX3_become_101 : decode cX3_become 101 = .ok (.getfield 24, 3) := by decide +kernel
theorem dX3_become_104 : decode cX3_become 104 = .ok (.iconst 0, 1) := by decide +kernel
theorem dX3_become_105 : decode cX3_become 105 = .ok (.aload_n 0, 1) := by decide +kernel
theorem dX3_become_106 : decode cX3_become 106 = .ok (.getfield 24, 3) := by decide +kernel
theorem dX3_become_109 : decode cX3_become 109 = .ok (.iconst 0, 1) := by decide +kernel
theorem dX3_become_110 : decode cX3_become 110 = .ok (.bipush 7, 2) := by decide +kernel
theorem dX3_become_112 : decode cX3_become 112 = .ok (.invokestatic 46, 3) := by decide +kernel
theorem dX3_become_115 : decode cX3_become 115 = .ok (.return_, 1) := by decide +kernel
theorem dX3_isLit_0 : decode cX3_isLit 0 = .ok (.aload_n 0, 1) := by decide +kernel
theorem dX3_isLit_1 : decode cX3_isLit 1 = .ok (.getfield 11, 3) := by decide +kernel
theorem dX3_isLit_4 : decode cX3_isLit 4 = .ok (.iload_n 1, 1) := by decide +kernel
theorem dX3_isLit_5 : decode cX3_isLit 5 = .ok (.iaload, 1) := by decide +kernel
theorem dX3_isLit_6 : decode cX3_isLit 6 = .ok (.ifCond .le 7, 3) := by decide +kernel
theorem dX3_isLit_9 : decode cX3_isLit 9 = .ok (.iconst 1, 1) := by decide +kernel
theorem dX3_isLit_10 : decode cX3_isLit 10 = .ok (.goto 4, 3) := by decide +kernel
theorem dX3_isLit_13 : decode cX3_isLit 13 = .ok (.iconst 0, 1) := by decide +kernel
theorem dX3_isLit_14 : decode cX3_isLit 14 = .ok (.ireturn, 1) := by decide +kernel
theorem dX3_litBits_0 : decode cX3_litBits 0 = .ok (.iconst 0, 1) := by decide +kernel
theorem dX3_litBits_1 : decode cX3_litBits 1 = .ok (.istore_n 1, 1) := by decide +kernel
theorem dX3_litBits_2 : decode cX3_litBits 2 = .ok (.iconst 0, 1) := by decide +kernel
theorem dX3_litBits_3 : decode cX3_litBits 3 = .ok (.istore_n 2, 1) := by decide +kernel
theorem dX3_litBits_4 : decode cX3_litBits 4 = .ok (.iload_n 2, 1) := by decide +kernel
theorem dX3_litBits_5 : decode cX3_litBits 5 = .ok (.aload_n 0, 1) := by decide +kernel
theorem dX3_litBits_6 : decode cX3_litBits 6 = .ok (.getfield 30, 3) := by decide +kernel
theorem dX3_litBits_9 : decode cX3_litBits 9 = .ok (.if_icmp .ge 27, 3) := by decide +kernel
theorem dX3_litBits_12 : decode cX3_litBits 12 = .ok (.iload_n 1, 1) := by decide +kernel
theorem dX3_litBits_13 : decode cX3_litBits 13 = .ok (.aload_n 0, 1) := by decide +kernel
theorem dX3_litBits_14 : decode cX3_litBits 14 = .ok (.iload_n 2, 1) := by decide +kernel
theorem dX3_litBits_15 : decode cX3_litBits 15 = .ok (.invokevirtual 52, 3) := by decide +kernel
theorem dX3_litBits_18 : decode cX3_litBits 18 = .ok (.ifCond .eq 9, 3) := by decide +kernel
theorem dX3_litBits_21 : decode cX3_litBits 21 = .ok (.iconst 1, 1) := by decide +kernel
theorem dX3_litBits_22 : decode cX3_litBits 22 = .ok (.iload_n 2, 1) := by decide +kernel
theorem dX3_litBits_23 : decode cX3_litBits 23 = .ok (.ishl, 1) := by decide +kernel
theorem dX3_litBits_24 : decode cX3_litBits 24 = .ok (.goto 4, 3) := by decide +kernel
theorem dX3_litBits_27 : decode cX3_litBits 27 = .ok (.iconst 0, 1) := by decide +kernel
theorem dX3_litBits_28 : decode cX3_litBits 28 = .ok (.ior, 1) := by decide +kernel
theorem dX3_litBits_29 : decode cX3_litBits 29 = .ok (.istore_n 1, 1) := by decide +kernel
theorem dX3_litBits_30 : decode cX3_litBits 30 = .ok (.iinc 2 1, 3) := by decide +kernel
theorem dX3_litBits_33 : decode cX3_litBits 33 = .ok (.goto (-29), 3) := by decide +kernel
theorem dX3_litBits_36 : decode cX3_litBits 36 = .ok (.iload_n 1, 1) := by decide +kernel
theorem dX3_litBits_37 : decode cX3_litBits 37 = .ok (.ireturn, 1) := by decide +kernel
theorem dX3_isAllLit_0 : decode cX3_isAllLit 0 = .ok (.aload_n 0, 1) := by decide +kernel
theorem dX3_isAllLit_1 : decode cX3_isAllLit 1 = .ok (.invokevirtual 56, 3) := by decide +kernel
theorem dX3_isAllLit_4 : decode cX3_isAllLit 4 = .ok (.iconst 1, 1) := by decide +kernel
theorem dX3_isAllLit_5 : decode cX3_isAllLit 5 = .ok (.aload_n 0, 1) := by decide +kernel
theorem dX3_isAllLit_6 : decode cX3_isAllLit 6 = .ok (.getfield 30, 3) := by decide +kernel
theorem dX3_isAllLit_9 : decode cX3_isAllLit 9 = .ok (.ishl, 1) := by decide +kernel
theorem dX3_isAllLit_10 : decode cX3_isAllLit 10 = .ok (.iconst 1, 1) := by decide +kernel
theorem dX3_isAllLit_11 : decode cX3_isAllLit 11 = .ok (.isub, 1) := by decide +kernel
theorem dX3_isAllLit_12 : decode cX3_isAllLit 12 = .ok (.if_icmp .ne 7, 3) := by decide +kernel
theorem dX3_isAllLit_15 : decode cX3_isAllLit 15 = .ok (.iconst 1, 1) := by decide +kernel
theorem dX3_isAllLit_16 : decode cX3_isAllLit 16 = .ok (.goto 4, 3) := by decide +kernel
theorem dX3_isAllLit_19 : decode cX3_isAllLit 19 = .ok (.iconst 0, 1) := by decide +kernel
theorem dX3_isAllLit_20 : decode cX3_isAllLit 20 = .ok (.ireturn, 1) := by decide +kernel
theorem dX3_pegBits_0 : decode cX3_pegBits 0 = .ok (.iconst 0, 1) := by decide +kernel
theorem dX3_pegBits_1 : decode cX3_pegBits 1 = .ok (.istore_n 1, 1) := by decide +kernel
theorem dX3_pegBits_2 : decode cX3_pegBits 2 = .ok (.iconst 0, 1) := by decide +kernel
theorem dX3_pegBits_3 : decode cX3_pegBits 3 = .ok (.istore_n 2, 1) := by decide +kernel
theorem dX3_pegBits_4 : decode cX3_pegBits 4 = .ok (.iload_n 2, 1) := by decide +kernel
theorem dX3_pegBits_5 : decode cX3_pegBits 5 = .ok (.aload_n 0, 1) := by decide +kernel
theorem dX3_pegBits_6 : decode cX3_pegBits 6 = .ok (.getfield 43, 3) := by decide +kernel
theorem dX3_pegBits_9 : decode cX3_pegBits 9 = .ok (.if_icmp .ge 20, 3) := by decide +kernel
theorem dX3_pegBits_12 : decode cX3_pegBits 12 = .ok (.iload_n 1, 1) := by decide +kernel
theorem dX3_pegBits_13 : decode cX3_pegBits 13 = .ok (.aload_n 0, 1) := by decide +kernel
theorem dX3_pegBits_14 : decode cX3_pegBits 14 = .ok (.getfield 24, 3) := by decide +kernel
theorem dX3_pegBits_17 : decode cX3_pegBits 17 = .ok (.iload_n 2, 1) := by decide +kernel
theorem dX3_pegBits_18 : decode cX3_pegBits 18 = .ok (.iaload, 1) := by decide +kernel
theorem dX3_pegBits_19 : decode cX3_pegBits 19 = .ok (.iload_n 2, 1) := by decide +kernel
theorem dX3_pegBits_20 : decode cX3_pegBits 20 = .ok (.ishl, 1) := by decide +kernel
theorem dX3_pegBits_21 : decode cX3_pegBits 21 = .ok (.ior, 1) := by decide +kernel
theorem dX3_pegBits_22 : decode cX3_pegBits 22 = .ok (.istore_n 1, 1) := by decide +kernel
theorem dX3_pegBits_23 : decode cX3_pegBits 23 = .ok (.iinc 2 1, 3) := by decide +kernel
theorem dX3_pegBits_26 : decode cX3_pegBits 26 = .ok (.goto (-22), 3) := by decide +kernel
theorem dX3_pegBits_29 : decode cX3_pegBits 29 = .ok (.iload_n 1, 1) := by decide +kernel
theorem dX3_pegBits_30 : decode cX3_pegBits 30 = .ok (.ireturn, 1) := by decide +kernel
theorem dX3_pairBitsAt_0 : decode cX3_pairBitsAt 0 = .ok (.iconst 0, 1) := by decide +kernel
theorem dX3_pairBitsAt_1 : decode cX3_pairBitsAt 1 = .ok (.istore_n 2, 1) := by decide +kernel
theorem dX3_pairBitsAt_2 : decode cX3_pairBitsAt 2 = .ok (.iconst 0, 1) := by decide +kernel
theorem dX3_pairBitsAt_3 : decode cX3_pairBitsAt 3 = .ok (.istore_n 3, 1) := by decide +kernel
theorem dX3_pairBitsAt_4 : decode cX3_pairBitsAt 4 = .ok (.iload_n 3, 1) := by decide +kernel
theorem dX3_pairBitsAt_5 : decode cX3_pairBitsAt 5 = .ok (.aload_n 0, 1) := by decide +kernel
theorem dX3_pairBitsAt_6 : decode cX3_pairBitsAt 6 = .ok (.getfield 43, 3) := by decide +kernel
theorem dX3_pairBitsAt_9 : decode cX3_pairBitsAt 9 = .ok (.if_icmp .ge 29, 3) := by decide +kernel
theorem dX3_pairBitsAt_12 : decode cX3_pairBitsAt 12 = .ok (.iload_n 2, 1) := by decide +kernel
theorem dX3_pairBitsAt_13 : decode cX3_pairBitsAt 13 = .ok (.aload_n 0, 1) := by decide +kernel
theorem dX3_pairBitsAt_14 : decode cX3_pairBitsAt 14 = .ok (.getfield 21, 3) := by decide +kernel
theorem dX3_pairBitsAt_17 : decode cX3_pairBitsAt 17 = .ok (.iload_n 3, 1) := by decide +kernel
theorem dX3_pairBitsAt_18 : decode cX3_pairBitsAt 18 = .ok (.iaload, 1) := by decide +kernel
theorem dX3_pairBitsAt_19 : decode cX3_pairBitsAt 19 = .ok (.iload_n 1, 1) := by decide +kernel
theorem dX3_pairBitsAt_20 : decode cX3_pairBitsAt 20 = .ok (.if_icmp .ne 9, 3) := by decide +kernel
theorem dX3_pairBitsAt_23 : decode cX3_pairBitsAt 23 = .ok (.iconst 1, 1) := by decide +kernel
theorem dX3_pairBitsAt_24 : decode cX3_pairBitsAt 24 = .ok (.iload_n 3, 1) := by decide +kernel
theorem dX3_pairBitsAt_25 : decode cX3_pairBitsAt 25 = .ok (.ishl, 1) := by decide +kernel
theorem dX3_pairBitsAt_26 : decode cX3_pairBitsAt 26 = .ok (.goto 4, 3) := by decide +kernel
theorem dX3_pairBitsAt_29 : decode cX3_pairBitsAt 29 = .ok (.iconst 0, 1) := by decide +kernel
theorem dX3_pairBitsAt_30 : decode cX3_pairBitsAt 30 = .ok (.ior, 1) := by decide +kernel
theorem dX3_pairBitsAt_31 : decode cX3_pairBitsAt 31 = .ok (.istore_n 2, 1) := by decide +kernel
theorem dX3_pairBitsAt_32 : decode cX3_pairBitsAt 32 = .ok (.iinc 3 1, 3) := by decide +kernel
theorem dX3_pairBitsAt_35 : decode cX3_pairBitsAt 35 = .ok (.goto (-31), 3) := by decide +kernel
theorem dX3_pairBitsAt_38 : decode cX3_pairBitsAt 38 = .ok (.iload_n 2, 1) := by decide +kernel
theorem dX3_pairBitsAt_39 : decode cX3_pairBitsAt 39 = .ok (.ireturn, 1) := by decide +kernel
theorem dX3_fireInAll_0 : decode cX3_fireInAll 0 = .ok (.iconst 0, 1) := by decide +kernel
theorem dX3_fireInAll_1 : decode cX3_fireInAll 1 = .ok (.istore_n 1, 1) := by decide +kernel
theorem dX3_fireInAll_2 : decode cX3_fireInAll 2 = .ok (.iconst 0, 1) := by decide +kernel
theorem dX3_fireInAll_3 : decode cX3_fireInAll 3 = .ok (.istore_n 2, 1) := by decide +kernel
theorem dX3_fireInAll_4 : decode cX3_fireInAll 4 = .ok (.iload_n 2, 1) := by decide +kernel
theorem dX3_fireInAll_5 : decode cX3_fireInAll 5 = .ok (.aload_n 0, 1) := by decide +kernel
theorem dX3_fireInAll_6 : decode cX3_fireInAll 6 = .ok (.getfield 30, 3) := by decide +kernel
theorem dX3_fireInAll_9 : decode cX3_fireInAll 9 = .ok (.if_icmp .ge 18, 3) := by decide +kernel
theorem dX3_fireInAll_12 : decode cX3_fireInAll 12 = .ok (.iload_n 1, 1) := by decide +kernel
theorem dX3_fireInAll_13 : decode cX3_fireInAll 13 = .ok (.aload_n 0, 1) := by decide +kernel
theorem dX3_fireInAll_14 : decode cX3_fireInAll 14 = .ok (.getfield 11, 3) := by decide +kernel
theorem dX3_fireInAll_17 : decode cX3_fireInAll 17 = .ok (.iload_n 2, 1) := by decide +kernel
theorem dX3_fireInAll_18 : decode cX3_fireInAll 18 = .ok (.iaload, 1) := by decide +kernel
theorem dX3_fireInAll_19 : decode cX3_fireInAll 19 = .ok (.iadd, 1) := by decide +kernel
theorem dX3_fireInAll_20 : decode cX3_fireInAll 20 = .ok (.istore_n 1, 1) := by decide +kernel
theorem dX3_fireInAll_21 : decode cX3_fireInAll 21 = .ok (.iinc 2 1, 3) := by decide +kernel
theorem dX3_fireInAll_24 : decode cX3_fireInAll 24 = .ok (.goto (-20), 3) := by decide +kernel
theorem dX3_fireInAll_27 : decode cX3_fireInAll 27 = .ok (.iload_n 1, 1) := by decide +kernel
theorem dX3_fireInAll_28 : decode cX3_fireInAll 28 = .ok (.ireturn, 1) := by decide +kernel
theorem dX3_breathInAll_0 : decode cX3_breathInAll 0 = .ok (.iconst 0, 1) := by decide +kernel
theorem dX3_breathInAll_1 : decode cX3_breathInAll 1 = .ok (.istore_n 1, 1) := by decide +kernel
theorem dX3_breathInAll_2 : decode cX3_breathInAll 2 = .ok (.iconst 0, 1) := by decide +kernel
theorem dX3_breathInAll_3 : decode cX3_breathInAll 3 = .ok (.istore_n 2, 1) := by decide +kernel
theorem dX3_breathInAll_4 : decode cX3_breathInAll 4 = .ok (.iload_n 2, 1) := by decide +kernel
theorem dX3_breathInAll_5 : decode cX3_breathInAll 5 = .ok (.aload_n 0, 1) := by decide +kernel
theorem dX3_breathInAll_6 : decode cX3_breathInAll 6 = .ok (.getfield 43, 3) := by decide +kernel
theorem dX3_breathInAll_9 : decode cX3_breathInAll 9 = .ok (.if_icmp .ge 18, 3) := by decide +kernel
theorem dX3_breathInAll_12 : decode cX3_breathInAll 12 = .ok (.iload_n 1, 1) := by decide +kernel
theorem dX3_breathInAll_13 : decode cX3_breathInAll 13 = .ok (.aload_n 0, 1) := by decide +kernel
theorem dX3_breathInAll_14 : decode cX3_breathInAll 14 = .ok (.getfield 18, 3) := by decide +kernel
theorem dX3_breathInAll_17 : decode cX3_breathInAll 17 = .ok (.iload_n 2, 1) := by decide +kernel
theorem dX3_breathInAll_18 : decode cX3_breathInAll 18 = .ok (.iaload, 1) := by decide +kernel
theorem dX3_breathInAll_19 : decode cX3_breathInAll 19 = .ok (.iadd, 1) := by decide +kernel
theorem dX3_breathInAll_20 : decode cX3_breathInAll 20 = .ok (.istore_n 1, 1) := by decide +kernel
theorem dX3_breathInAll_21 : decode cX3_breathInAll 21 = .ok (.iinc 2 1, 3) := by decide +kernel
theorem dX3_breathInAll_24 : decode cX3_breathInAll 24 = .ok (.goto (-20), 3) := by decide +kernel
theorem dX3_breathInAll_27 : decode cX3_breathInAll 27 = .ok (.iload_n 1, 1) := by decide +kernel
theorem dX3_breathInAll_28 : decode cX3_breathInAll 28 = .ok (.ireturn, 1) := by decide +kernel
theorem dX3_firstWithoutBreath_0 : decode cX3_firstWithoutBreath 0 = .ok (.iconst 0, 1) := by decide +kernel
theorem dX3_firstWithoutBreath_1 : decode cX3_firstWithoutBreath 1 = .ok (.istore_n 1, 1) := by decide +kernel
theorem dX3_firstWithoutBreath_2 : decode cX3_firstWithoutBreath 2 = .ok (.iload_n 1, 1) := by decide +kernel
theorem dX3_firstWithoutBreath_3 : decode cX3_firstWithoutBreath 3 = .ok (.aload_n 0, 1) := by decide +kernel
theorem dX3_firstWithoutBreath_4 : decode cX3_firstWithoutBreath 4 = .ok (.getfield 43, 3) := by decide +kernel
theorem dX3_firstWithoutBreath_7 : decode cX3_firstWithoutBreath 7 = .ok (.if_icmp .ge 20, 3) := by decide +kernel
theorem dX3_firstWithoutBreath_10 : decode cX3_firstWithoutBreath 10 = .ok (.aload_n 0, 1) := by decide +kernel
theorem dX3_firstWithoutBreath_11 : decode cX3_firstWithoutBreath 11 = .ok (.getfield 18, 3) := by decide +kernel
theorem dX3_firstWithoutBreath_14 : decode cX3_firstWithoutBreath 14 = .ok (.iload_n 1, 1) := by decide +kernel
theorem dX3_firstWithoutBreath_15 : decode cX3_firstWithoutBreath 15 = .ok (.iaload, 1) := by decide +kernel
theorem dX3_firstWithoutBreath_16 : decode cX3_firstWithoutBreath 16 = .ok (.ifCond .ne 5, 3) := by decide +kernel
theorem dX3_firstWithoutBreath_19 : decode cX3_firstWithoutBreath 19 = .ok (.iload_n 1, 1) := by decide +kernel
theorem dX3_firstWithoutBreath_20 : decode cX3_firstWithoutBreath 20 = .ok (.ireturn, 1) := by decide +kernel
theorem dX3_firstWithoutBreath_21 : decode cX3_firstWithoutBreath 21 = .ok (.iinc 1 1, 3) := by decide +kernel
theorem dX3_firstWithoutBreath_24 : decode cX3_firstWithoutBreath 24 = .ok (.goto (-22), 3) := by decide +kernel
theorem dX3_firstWithoutBreath_27 : decode cX3_firstWithoutBreath 27 = .ok (.ldc 60, 2) := by decide +kernel
theorem dX3_firstWithoutBreath_29 : decode cX3_firstWithoutBreath 29 = .ok (.ireturn, 1) := by decide +kernel
theorem dX3_blownInto_0 : decode cX3_blownInto 0 = .ok (.aload_n 0, 1) := by decide +kernel
theorem dX3_blownInto_1 : decode cX3_blownInto 1 = .ok (.invokevirtual 61, 3) := by decide +kernel
theorem dX3_blownInto_4 : decode cX3_blownInto 4 = .ok (.aload_n 0, 1) := by decide +kernel
theorem dX3_blownInto_5 : decode cX3_blownInto 5 = .ok (.getfield 27, 3) := by decide +kernel
theorem dX3_blownInto_8 : decode cX3_blownInto 8 = .ok (.iload_n 1, 1) := by decide +kernel
theorem dX3_blownInto_9 : decode cX3_blownInto 9 = .ok (.iaload, 1) := by decide +kernel
theorem dX3_blownInto_10 : decode cX3_blownInto 10 = .ok (.ireturn, 1) := by decide +kernel
theorem dX3_changeOf_0 : decode cX3_changeOf 0 = .ok (.aload_n 0, 1) := by decide +kernel
theorem dX3_changeOf_1 : decode cX3_changeOf 1 = .ok (.getfield 24, 3) := by decide +kernel
theorem dX3_changeOf_4 : decode cX3_changeOf 4 = .ok (.iload_n 1, 1) := by decide +kernel
theorem dX3_changeOf_5 : decode cX3_changeOf 5 = .ok (.iaload, 1) := by decide +kernel
theorem dX3_changeOf_6 : decode cX3_changeOf 6 = .ok (.ifCond .ne 10, 3) := by decide +kernel
theorem dX3_changeOf_9 : decode cX3_changeOf 9 = .ok (.aload_n 0, 1) := by decide +kernel
theorem dX3_changeOf_10 : decode cX3_changeOf 10 = .ok (.iload_n 1, 1) := by decide +kernel
theorem dX3_changeOf_11 : decode cX3_changeOf 11 = .ok (.invokevirtual 64, 3) := by decide +kernel
theorem dX3_changeOf_14 : decode cX3_changeOf 14 = .ok (.ineg, 1) := by decide +kernel
theorem dX3_changeOf_15 : decode cX3_changeOf 15 = .ok (.ireturn, 1) := by decide +kernel
theorem dX3_changeOf_16 : decode cX3_changeOf 16 = .ok (.aload_n 0, 1) := by decide +kernel
theorem dX3_changeOf_17 : decode cX3_changeOf 17 = .ok (.invokevirtual 68, 3) := by decide +kernel
theorem dX3_changeOf_20 : decode cX3_changeOf 20 = .ok (.ifCond .eq 7, 3) := by decide +kernel
theorem dX3_changeOf_23 : decode cX3_changeOf 23 = .ok (.iconst 1, 1) := by decide +kernel
theorem dX3_changeOf_24 : decode cX3_changeOf 24 = .ok (.goto 4, 3) := by decide +kernel
theorem dX3_changeOf_27 : decode cX3_changeOf 27 = .ok (.iconst 0, 1) := by decide +kernel
theorem dX3_changeOf_28 : decode cX3_changeOf 28 = .ok (.istore_n 2, 1) := by decide +kernel
theorem dX3_changeOf_29 : decode cX3_changeOf 29 = .ok (.aload_n 0, 1) := by decide +kernel
theorem dX3_changeOf_30 : decode cX3_changeOf 30 = .ok (.getfield 15, 3) := by decide +kernel
theorem dX3_changeOf_33 : decode cX3_changeOf 33 = .ok (.iload_n 1, 1) := by decide +kernel
theorem dX3_changeOf_34 : decode cX3_changeOf 34 = .ok (.iaload, 1) := by decide +kernel
theorem dX3_changeOf_35 : decode cX3_changeOf 35 = .ok (.tableswitch 104 1 5 #[33, 45, 61, 104, 90], 33) := by decide +kernel
theorem dX3_changeOf_68 : decode cX3_changeOf 68 = .ok (.iload_n 2, 1) := by decide +kernel
theorem dX3_changeOf_69 : decode cX3_changeOf 69 = .ok (.aload_n 0, 1) := by decide +kernel
theorem dX3_changeOf_70 : decode cX3_changeOf 70 = .ok (.getfield 18, 3) := by decide +kernel
theorem dX3_changeOf_73 : decode cX3_changeOf 73 = .ok (.iload_n 1, 1) := by decide +kernel
theorem dX3_changeOf_74 : decode cX3_changeOf 74 = .ok (.iaload, 1) := by decide +kernel
theorem dX3_changeOf_75 : decode cX3_changeOf 75 = .ok (.invokestatic 72, 3) := by decide +kernel
theorem dX3_changeOf_78 : decode cX3_changeOf 78 = .ok (.ineg, 1) := by decide +kernel
theorem dX3_changeOf_79 : decode cX3_changeOf 79 = .ok (.ireturn, 1) := by decide +kernel
theorem dX3_changeOf_80 : decode cX3_changeOf 80 = .ok (.iconst 2, 1) := by decide +kernel
theorem dX3_changeOf_81 : decode cX3_changeOf 81 = .ok (.iload_n 2, 1) := by decide +kernel
theorem dX3_changeOf_82 : decode cX3_changeOf 82 = .ok (.imul, 1) := by decide +kernel
theorem dX3_changeOf_83 : decode cX3_changeOf 83 = .ok (.iconst 1, 1) := by decide +kernel
theorem dX3_changeOf_84 : decode cX3_changeOf 84 = .ok (.iadd, 1) := by decide +kernel
theorem dX3_changeOf_85 : decode cX3_changeOf 85 = .ok (.aload_n 0, 1) := by decide +kernel
theorem dX3_changeOf_86 : decode cX3_changeOf 86 = .ok (.getfield 18, 3) := by decide +kernel
theorem dX3_changeOf_89 : decode cX3_changeOf 89 = .ok (.iload_n 1, 1) := by decide +kernel
theorem dX3_changeOf_90 : decode cX3_changeOf 90 = .ok (.iaload, 1) := by decide +kernel
theorem dX3_changeOf_91 : decode cX3_changeOf 91 = .ok (.invokestatic 72, 3) := by decide +kernel
theorem dX3_changeOf_94 : decode cX3_changeOf 94 = .ok (.ineg, 1) := by decide +kernel
theorem dX3_changeOf_95 : decode cX3_changeOf 95 = .ok (.ireturn, 1) := by decide +kernel
theorem dX3_changeOf_96 : decode cX3_changeOf 96 = .ok (.aload_n 0, 1) := by decide +kernel
theorem dX3_changeOf_97 : decode cX3_changeOf 97 = .ok (.aload_n 0, 1) := by decide +kernel
theorem dX3_changeOf_98 : decode cX3_changeOf 98 = .ok (.getfield 21, 3) := by decide +kernel
theorem dX3_changeOf_101 : decode cX3_changeOf 101 = .ok (.iload_n 1, 1) := by decide +kernel
theorem dX3_changeOf_102 : decode cX3_changeOf 102 = .ok (.iaload, 1) := by decide +kernel
theorem dX3_changeOf_103 : decode cX3_changeOf 103 = .ok (.invokevirtual 52, 3) := by decide +kernel
theorem dX3_changeOf_106 : decode cX3_changeOf 106 = .ok (.ifCond .eq 7, 3) := by decide +kernel
theorem dX3_changeOf_109 : decode cX3_changeOf 109 = .ok (.iconst 0, 1) := by decide +kernel
theorem dX3_changeOf_110 : decode cX3_changeOf 110 = .ok (.goto 14, 3) := by decide +kernel
theorem dX3_changeOf_113 : decode cX3_changeOf 113 = .ok (.iload_n 2, 1) := by decide +kernel
theorem dX3_changeOf_114 : decode cX3_changeOf 114 = .ok (.aload_n 0, 1) := by decide +kernel
theorem dX3_changeOf_115 : decode cX3_changeOf 115 = .ok (.getfield 18, 3) := by decide +kernel
theorem dX3_changeOf_118 : decode cX3_changeOf 118 = .ok (.iload_n 1, 1) := by decide +kernel
theorem dX3_changeOf_119 : decode cX3_changeOf 119 = .ok (.iaload, 1) := by decide +kernel
theorem dX3_changeOf_120 : decode cX3_changeOf 120 = .ok (.invokestatic 72, 3) := by decide +kernel
theorem dX3_changeOf_123 : decode cX3_changeOf 123 = .ok (.ineg, 1) := by decide +kernel
theorem dX3_changeOf_124 : decode cX3_changeOf 124 = .ok (.ireturn, 1) := by decide +kernel
theorem dX3_changeOf_125 : decode cX3_changeOf 125 = .ok (.iload_n 2, 1) := by decide +kernel
theorem dX3_changeOf_126 : decode cX3_changeOf 126 = .ok (.bipush 40, 2) := by decide +kernel
theorem dX3_changeOf_128 : decode cX3_changeOf 128 = .ok (.aload_n 0, 1) := by decide +kernel
theorem dX3_changeOf_129 : decode cX3_changeOf 129 = .ok (.getfield 18, 3) := by decide +kernel
theorem dX3_changeOf_132 : decode cX3_changeOf 132 = .ok (.iload_n 1, 1) := by decide +kernel
theorem dX3_changeOf_133 : decode cX3_changeOf 133 = .ok (.iaload, 1) := by decide +kernel
theorem dX3_changeOf_134 : decode cX3_changeOf 134 = .ok (.isub, 1) := by decide +kernel
theorem dX3_changeOf_135 : decode cX3_changeOf 135 = .ok (.invokestatic 72, 3) := by decide +kernel
theorem dX3_changeOf_138 : decode cX3_changeOf 138 = .ok (.ireturn, 1) := by decide +kernel
theorem dX3_changeOf_139 : decode cX3_changeOf 139 = .ok (.iconst 0, 1) := by decide +kernel
theorem dX3_changeOf_140 : decode cX3_changeOf 140 = .ok (.ireturn, 1) := by decide +kernel
theorem dX3_passDay_0 : decode cX3_passDay 0 = .ok (.aload_n 0, 1) := by decide +kernel
theorem dX3_passDay_1 : decode cX3_passDay 1 = .ok (.invokevirtual 61, 3) := by decide +kernel
theorem dX3_passDay_4 : decode cX3_passDay 4 = .ok (.iconst 0, 1) := by decide +kernel
theorem dX3_passDay_5 : decode cX3_passDay 5 = .ok (.istore_n 1, 1) := by decide +kernel
theorem dX3_passDay_6 : decode cX3_passDay 6 = .ok (.iload_n 1, 1) := by decide +kernel
theorem dX3_passDay_7 : decode cX3_passDay 7 = .ok (.aload_n 0, 1) := by decide +kernel
theorem dX3_passDay_8 : decode cX3_passDay 8 = .ok (.getfield 43, 3) := by decide +kernel
theorem dX3_passDay_11 : decode cX3_passDay 11 = .ok (.if_icmp .ge 23, 3) := by decide +kernel
theorem dX3_passDay_14 : decode cX3_passDay 14 = .ok (.aload_n 0, 1) := by decide +kernel
theorem dX3_passDay_15 : decode cX3_passDay 15 = .ok (.getfield 18, 3) := by decide +kernel
theorem dX3_passDay_18 : decode cX3_passDay 18 = .ok (.iload_n 1, 1) := by decide +kernel
theorem dX3_passDay_19 : decode cX3_passDay 19 = .ok (.dup2, 1) := by decide +kernel
theorem dX3_passDay_20 : decode cX3_passDay 20 = .ok (.iaload, 1) := by decide +kernel
theorem dX3_passDay_21 : decode cX3_passDay 21 = .ok (.aload_n 0, 1) := by decide +kernel
theorem dX3_passDay_22 : decode cX3_passDay 22 = .ok (.iload_n 1, 1) := by decide +kernel
theorem dX3_passDay_23 : decode cX3_passDay 23 = .ok (.invokevirtual 78, 3) := by decide +kernel
theorem dX3_passDay_26 : decode cX3_passDay 26 = .ok (.iadd, 1) := by decide +kernel
theorem dX3_passDay_27 : decode cX3_passDay 27 = .ok (.iastore, 1) := by decide +kernel
theorem dX3_passDay_28 : decode cX3_passDay 28 = .ok (.iinc 1 1, 3) := by decide +kernel
theorem dX3_passDay_31 : decode cX3_passDay 31 = .ok (.goto (-25), 3) := by decide +kernel
theorem dX3_passDay_34 : decode cX3_passDay 34 = .ok (.aload_n 0, 1) := by decide +kernel
theorem dX3_passDay_35 : decode cX3_passDay 35 = .ok (.invokevirtual 81, 3) := by decide +kernel
theorem dX3_passDay_38 : decode cX3_passDay 38 = .ok (.aload_n 0, 1) := by decide +kernel
theorem dX3_passDay_39 : decode cX3_passDay 39 = .ok (.dup, 1) := by decide +kernel
theorem dX3_passDay_40 : decode cX3_passDay 40 = .ok (.getfield 34, 3) := by decide +kernel
theorem dX3_passDay_43 : decode cX3_passDay 43 = .ok (.iconst 1, 1) := by decide +kernel
theorem dX3_passDay_44 : decode cX3_passDay 44 = .ok (.iadd, 1) := by decide +kernel
theorem dX3_passDay_45 : decode cX3_passDay 45 = .ok (.putfield 34, 3) := by decide +kernel
theorem dX3_passDay_48 : decode cX3_passDay 48 = .ok (.return_, 1) := by decide +kernel
theorem dX3_isWarmDay_0 : decode cX3_isWarmDay 0 = .ok (.aload_n 0, 1) := by decide +kernel
theorem dX3_isWarmDay_1 : decode cX3_isWarmDay 1 = .ok (.getfield 37, 3) := by decide +kernel
theorem dX3_isWarmDay_4 : decode cX3_isWarmDay 4 = .ok (.aload_n 0, 1) := by decide +kernel
theorem dX3_isWarmDay_5 : decode cX3_isWarmDay 5 = .ok (.getfield 34, 3) := by decide +kernel
theorem dX3_isWarmDay_8 : decode cX3_isWarmDay 8 = .ok (.iconst 4, 1) := by decide +kernel
theorem dX3_isWarmDay_9 : decode cX3_isWarmDay 9 = .ok (.irem, 1) := by decide +kernel
theorem dX3_isWarmDay_10 : decode cX3_isWarmDay 10 = .ok (.ishr, 1) := by decide +kernel
theorem dX3_isWarmDay_11 : decode cX3_isWarmDay 11 = .ok (.iconst 1, 1) := by decide +kernel
theorem dX3_isWarmDay_12 : decode cX3_isWarmDay 12 = .ok (.iand, 1) := by decide +kernel
theorem dX3_isWarmDay_13 : decode cX3_isWarmDay 13 = .ok (.iconst 1, 1) := by decide +kernel
theorem dX3_isWarmDay_14 : decode cX3_isWarmDay 14 = .ok (.if_icmp .ne 7, 3) := by decide +kernel
theorem dX3_isWarmDay_17 : decode cX3_isWarmDay 17 = .ok (.iconst 1, 1) := by decide +kernel
theorem dX3_isWarmDay_18 : decode cX3_isWarmDay 18 = .ok (.goto 4, 3) := by decide +kernel
theorem dX3_isWarmDay_21 : decode cX3_isWarmDay 21 = .ok (.iconst 0, 1) := by decide +kernel
theorem dX3_isWarmDay_22 : decode cX3_isWarmDay 22 = .ok (.ireturn, 1) := by decide +kernel
theorem dX3_blownBy_0 : decode cX3_blownBy 0 = .ok (.aload_n 0, 1) := by decide +kernel
theorem dX3_blownBy_1 : decode cX3_blownBy 1 = .ok (.getfield 24, 3) := by decide +kernel
theorem dX3_blownBy_4 : decode cX3_blownBy 4 = .ok (.iload_n 1, 1) := by decide +kernel
theorem dX3_blownBy_5 : decode cX3_blownBy 5 = .ok (.iaload, 1) := by decide +kernel
theorem dX3_blownBy_6 : decode cX3_blownBy 6 = .ok (.iconst 1, 1) := by decide +kernel
theorem dX3_blownBy_7 : decode cX3_blownBy 7 = .ok (.if_icmp .ne 7, 3) := by decide +kernel
theorem dX3_blownBy_10 : decode cX3_blownBy 10 = .ok (.iconst 0, 1) := by decide +kernel
theorem dX3_blownBy_11 : decode cX3_blownBy 11 = .ok (.goto 13, 3) := by decide +kernel
theorem dX3_blownBy_14 : decode cX3_blownBy 14 = .ok (.iconst 4, 1) := by decide +kernel
theorem dX3_blownBy_15 : decode cX3_blownBy 15 = .ok (.aload_n 0, 1) := by decide +kernel
theorem dX3_blownBy_16 : decode cX3_blownBy 16 = .ok (.getfield 18, 3) := by decide +kernel
theorem dX3_blownBy_19 : decode cX3_blownBy 19 = .ok (.iload_n 1, 1) := by decide +kernel
theorem dX3_blownBy_20 : decode cX3_blownBy 20 = .ok (.iaload, 1) := by decide +kernel
theorem dX3_blownBy_21 : decode cX3_blownBy 21 = .ok (.invokestatic 72, 3) := by decide +kernel
theorem dX3_blownBy_24 : decode cX3_blownBy 24 = .ok (.ireturn, 1) := by decide +kernel
theorem dX3_gatherBlown_0 : decode cX3_gatherBlown 0 = .ok (.iconst 0, 1) := by decide +kernel
theorem dX3_gatherBlown_1 : decode cX3_gatherBlown 1 = .ok (.istore_n 1, 1) := by decide +kernel
theorem dX3_gatherBlown_2 : decode cX3_gatherBlown 2 = .ok (.iload_n 1, 1) := by decide +kernel
theorem dX3_gatherBlown_3 : decode cX3_gatherBlown 3 = .ok (.aload_n 0, 1) := by decide +kernel
theorem dX3_gatherBlown_4 : decode cX3_gatherBlown 4 = .ok (.getfield 30, 3) := by decide +kernel
theorem dX3_gatherBlown_7 : decode cX3_gatherBlown 7 = .ok (.if_icmp .ge 16, 3) := by decide +kernel
theorem dX3_gatherBlown_10 : decode cX3_gatherBlown 10 = .ok (.aload_n 0, 1) := by decide +kernel
theorem dX3_gatherBlown_11 : decode cX3_gatherBlown 11 = .ok (.getfield 27, 3) := by decide +kernel
theorem dX3_gatherBlown_14 : decode cX3_gatherBlown 14 = .ok (.iload_n 1, 1) := by decide +kernel
theorem dX3_gatherBlown_15 : decode cX3_gatherBlown 15 = .ok (.iconst 0, 1) := by decide +kernel
theorem dX3_gatherBlown_16 : decode cX3_gatherBlown 16 = .ok (.iastore, 1) := by decide +kernel
theorem dX3_gatherBlown_17 : decode cX3_gatherBlown 17 = .ok (.iinc 1 1, 3) := by decide +kernel
theorem dX3_gatherBlown_20 : decode cX3_gatherBlown 20 = .ok (.goto (-18), 3) := by decide +kernel
theorem dX3_gatherBlown_23 : decode cX3_gatherBlown 23 = .ok (.iconst 0, 1) := by decide +kernel
theorem dX3_gatherBlown_24 : decode cX3_gatherBlown 24 = .ok (.istore_n 1, 1) := by decide +kernel
theorem dX3_gatherBlown_25 : decode cX3_gatherBlown 25 = .ok (.iload_n 1, 1) := by decide +kernel
theorem dX3_gatherBlown_26 : decode cX3_gatherBlown 26 = .ok (.aload_n 0, 1) := by decide +kernel
theorem dX3_gatherBlown_27 : decode cX3_gatherBlown 27 = .ok (.getfield 43, 3) := by decide +kernel
theorem dX3_gatherBlown_30 : decode cX3_gatherBlown 30 = .ok (.if_icmp .ge 28, 3) := by decide +kernel
theorem dX3_gatherBlown_33 : decode cX3_gatherBlown 33 = .ok (.aload_n 0, 1) := by decide +kernel
theorem dX3_gatherBlown_34 : decode cX3_gatherBlown 34 = .ok (.getfield 27, 3) := by decide +kernel
theorem dX3_gatherBlown_37 : decode cX3_gatherBlown 37 = .ok (.aload_n 0, 1) := by decide +kernel
theorem dX3_gatherBlown_38 : decode cX3_gatherBlown 38 = .ok (.getfield 21, 3) := by decide +kernel
theorem dX3_gatherBlown_41 : decode cX3_gatherBlown 41 = .ok (.iload_n 1, 1) := by decide +kernel
theorem dX3_gatherBlown_42 : decode cX3_gatherBlown 42 = .ok (.iaload, 1) := by decide +kernel
theorem dX3_gatherBlown_43 : decode cX3_gatherBlown 43 = .ok (.dup2, 1) := by decide +kernel
theorem dX3_gatherBlown_44 : decode cX3_gatherBlown 44 = .ok (.iaload, 1) := by decide +kernel
theorem dX3_gatherBlown_45 : decode cX3_gatherBlown 45 = .ok (.aload_n 0, 1) := by decide +kernel
theorem dX3_gatherBlown_46 : decode cX3_gatherBlown 46 = .ok (.iload_n 1, 1) := by decide +kernel
theorem dX3_gatherBlown_47 : decode cX3_gatherBlown 47 = .ok (.invokevirtual 64, 3) := by decide +kernel
theorem dX3_gatherBlown_50 : decode cX3_gatherBlown 50 = .ok (.iadd, 1) := by decide +kernel
theorem dX3_gatherBlown_51 : decode cX3_gatherBlown 51 = .ok (.iastore, 1) := by decide +kernel
theorem dX3_gatherBlown_52 : decode cX3_gatherBlown 52 = .ok (.iinc 1 1, 3) := by decide +kernel
theorem dX3_gatherBlown_55 : decode cX3_gatherBlown 55 = .ok (.goto (-30), 3) := by decide +kernel
theorem dX3_gatherBlown_58 : decode cX3_gatherBlown 58 = .ok (.return_, 1) := by decide +kernel
theorem dX3_burnAll_0 : decode cX3_burnAll 0 = .ok (.iconst 0, 1) := by decide +kernel
theorem dX3_burnAll_1 : decode cX3_burnAll 1 = .ok (.istore_n 1, 1) := by decide +kernel
theorem dX3_burnAll_2 : decode cX3_burnAll 2 = .ok (.iconst 0, 1) := by decide +kernel
theorem dX3_burnAll_3 : decode cX3_burnAll 3 = .ok (.istore_n 2, 1) := by decide +kernel
theorem dX3_burnAll_4 : decode cX3_burnAll 4 = .ok (.iload_n 2, 1) := by decide +kernel
theorem dX3_burnAll_5 : decode cX3_burnAll 5 = .ok (.aload_n 0, 1) := by decide +kernel
theorem dX3_burnAll_6 : decode cX3_burnAll 6 = .ok (.getfield 30, 3) := by decide +kernel
theorem dX3_burnAll_9 : decode cX3_burnAll 9 = .ok (.if_icmp .ge 70, 3) := by decide +kernel
theorem dX3_burnAll_12 : decode cX3_burnAll 12 = .ok (.aload_n 0, 1) := by decide +kernel
theorem dX3_burnAll_13 : decode cX3_burnAll 13 = .ok (.getfield 11, 3) := by decide +kernel
theorem dX3_burnAll_16 : decode cX3_burnAll 16 = .ok (.iload_n 2, 1) := by decide +kernel
theorem dX3_burnAll_17 : decode cX3_burnAll 17 = .ok (.iaload, 1) := by decide +kernel
theorem dX3_burnAll_18 : decode cX3_burnAll 18 = .ok (.istore_n 3, 1) := by decide +kernel
theorem dX3_burnAll_19 : decode cX3_burnAll 19 = .ok (.iload_n 2, 1) := by decide +kernel
theorem dX3_burnAll_20 : decode cX3_burnAll 20 = .ok (.iconst 1, 1) := by decide +kernel
theorem dX3_burnAll_21 : decode cX3_burnAll 21 = .ok (.iadd, 1) := by decide +kernel
theorem dX3_burnAll_22 : decode cX3_burnAll 22 = .ok (.aload_n 0, 1) := by decide +kernel
theorem dX3_burnAll_23 : decode cX3_burnAll 23 = .ok (.getfield 30, 3) := by decide +kernel
theorem dX3_burnAll_26 : decode cX3_burnAll 26 = .ok (.if_icmp .ge 14, 3) := by decide +kernel
theorem dX3_burnAll_29 : decode cX3_burnAll 29 = .ok (.aload_n 0, 1) := by decide +kernel
theorem dX3_burnAll_30 : decode cX3_burnAll 30 = .ok (.getfield 11, 3) := by decide +kernel
theorem dX3_burnAll_33 : decode cX3_burnAll 33 = .ok (.iload_n 2, 1) := by decide +kernel
theorem dX3_burnAll_34 : decode cX3_burnAll 34 = .ok (.iconst 1, 1) := by decide +kernel
theorem dX3_burnAll_35 : decode cX3_burnAll 35 = .ok (.iadd, 1) := by decide +kernel
theorem dX3_burnAll_36 : decode cX3_burnAll 36 = .ok (.iaload, 1) := by decide +kernel
theorem dX3_burnAll_37 : decode cX3_burnAll 37 = .ok (.goto 4, 3) := by decide +kernel
theorem dX3_burnAll_40 : decode cX3_burnAll 40 = .ok (.iconst 0, 1) := by decide +kernel
theorem dX3_burnAll_41 : decode cX3_burnAll 41 = .ok (.istore 4, 2) := by decide +kernel
theorem dX3_burnAll_43 : decode cX3_burnAll 43 = .ok (.aload_n 0, 1) := by decide +kernel
theorem dX3_burnAll_44 : decode cX3_burnAll 44 = .ok (.getfield 11, 3) := by decide +kernel
theorem dX3_burnAll_47 : decode cX3_burnAll 47 = .ok (.iload_n 2, 1) := by decide +kernel
theorem dX3_burnAll_48 : decode cX3_burnAll 48 = .ok (.aload_n 0, 1) := by decide +kernel
theorem dX3_burnAll_49 : decode cX3_burnAll 49 = .ok (.iload_n 3, 1) := by decide +kernel
theorem dX3_burnAll_50 : decode cX3_burnAll 50 = .ok (.aload_n 0, 1) := by decide +kernel
theorem dX3_burnAll_51 : decode cX3_burnAll 51 = .ok (.getfield 27, 3) := by decide +kernel
theorem dX3_burnAll_54 : decode cX3_burnAll 54 = .ok (.iload_n 2, 1) := by decide +kernel
theorem dX3_burnAll_55 : decode cX3_burnAll 55 = .ok (.iaload, 1) := by decide +kernel
theorem dX3_burnAll_56 : decode cX3_burnAll 56 = .ok (.iload_n 1, 1) := by decide +kernel
theorem dX3_burnAll_57 : decode cX3_burnAll 57 = .ok (.iload 4, 2) := by decide +kernel
theorem dX3_burnAll_59 : decode cX3_burnAll 59 = .ok (.invokestatic 84, 3) := by decide +kernel
theorem dX3_burnAll_62 : decode cX3_burnAll 62 = .ok (.invokevirtual 87, 3) := by decide +kernel
theorem dX3_burnAll_65 : decode cX3_burnAll 65 = .ok (.bipush 99, 2) := by decide +kernel
theorem dX3_burnAll_67 : decode cX3_burnAll 67 = .ok (.invokestatic 72, 3) := by decide +kernel
theorem dX3_burnAll_70 : decode cX3_burnAll 70 = .ok (.iastore, 1) := by decide +kernel
theorem dX3_burnAll_71 : decode cX3_burnAll 71 = .ok (.iload_n 3, 1) := by decide +kernel
theorem dX3_burnAll_72 : decode cX3_burnAll 72 = .ok (.istore_n 1, 1) := by decide +kernel
theorem dX3_burnAll_73 : decode cX3_burnAll 73 = .ok (.iinc 2 1, 3) := by decide +kernel
theorem dX3_burnAll_76 : decode cX3_burnAll 76 = .ok (.goto (-72), 3) := by decide +kernel
theorem dX3_burnAll_79 : decode cX3_burnAll 79 = .ok (.return_, 1) := by decide +kernel
theorem dX3_burnt_0 : decode cX3_burnt 0 = .ok (.iload_n 1, 1) := by decide +kernel
theorem dX3_burnt_1 : decode cX3_burnt 1 = .ok (.ifCond .le 9, 3) := by decide +kernel
theorem dX3_burnt_4 : decode cX3_burnt 4 = .ok (.iload_n 1, 1) := by decide +kernel
theorem dX3_burnt_5 : decode cX3_burnt 5 = .ok (.iconst 1, 1) := by decide +kernel
theorem dX3_burnt_6 : decode cX3_burnt 6 = .ok (.isub, 1) := by decide +kernel
theorem dX3_burnt_7 : decode cX3_burnt 7 = .ok (.iload_n 2, 1) := by decide +kernel
theorem dX3_burnt_8 : decode cX3_burnt 8 = .ok (.iadd, 1) := by decide +kernel
theorem dX3_burnt_9 : decode cX3_burnt 9 = .ok (.ireturn, 1) := by decide +kernel
theorem dX3_burnt_10 : decode cX3_burnt 10 = .ok (.iload_n 2, 1) := by decide +kernel
theorem dX3_burnt_11 : decode cX3_burnt 11 = .ok (.aload_n 0, 1) := by decide +kernel
theorem dX3_burnt_12 : decode cX3_burnt 12 = .ok (.getfield 40, 3) := by decide +kernel
theorem dX3_burnt_15 : decode cX3_burnt 15 = .ok (.if_icmp .lt 5, 3) := by decide +kernel
theorem dX3_burnt_18 : decode cX3_burnt 18 = .ok (.iload_n 2, 1) := by decide +kernel
theorem dX3_burnt_19 : decode cX3_burnt 19 = .ok (.ireturn, 1) := by decide +kernel
theorem dX3_burnt_20 : decode cX3_burnt 20 = .ok (.iload_n 3, 1) := by decide +kernel
theorem dX3_burnt_21 : decode cX3_burnt 21 = .ok (.bipush 10, 2) := by decide +kernel
theorem dX3_burnt_23 : decode cX3_burnt 23 = .ok (.if_icmp .lt 7, 3) := by decide +kernel
theorem dX3_burnt_26 : decode cX3_burnt 26 = .ok (.iconst 1, 1) := by decide +kernel
theorem dX3_burnt_27 : decode cX3_burnt 27 = .ok (.goto 4, 3) := by decide +kernel
theorem dX3_burnt_30 : decode cX3_burnt 30 = .ok (.iconst 0, 1) := by decide +kernel
theorem dX3_burnt_31 : decode cX3_burnt 31 = .ok (.ireturn, 1) := by decide +kernel
theorem dX4_init_0 : decode cX4_init 0 = .ok (.aload_n 0, 1) := by decide +kernel
theorem dX4_init_1 : decode cX4_init 1 = .ok (.invokespecial 1, 3) := by decide +kernel
theorem dX4_init_4 : decode cX4_init 4 = .ok (.aload_n 0, 1) := by decide +kernel
theorem dX4_init_5 : decode cX4_init 5 = .ok (.bipush 8, 2) := by decide +kernel
theorem dX4_init_7 : decode cX4_init 7 = .ok (.newarray .int, 2) := by decide +kernel
theorem dX4_init_9 : decode cX4_init 9 = .ok (.putfield 9, 3) := by decide +kernel
theorem dX4_init_12 : decode cX4_init 12 = .ok (.aload_n 0, 1) := by decide +kernel
theorem dX4_init_13 : decode cX4_init 13 = .ok (.bipush 8, 2) := by decide +kernel
theorem dX4_init_15 : decode cX4_init 15 = .ok (.newarray .int, 2) := by decide +kernel
theorem dX4_init_17 : decode cX4_init 17 = .ok (.putfield 13, 3) := by decide +kernel
theorem dX4_init_20 : decode cX4_init 20 = .ok (.aload_n 0, 1) := by decide +kernel
theorem dX4_init_21 : decode cX4_init 21 = .ok (.sipush 320, 3) := by decide +kernel
theorem dX4_init_24 : decode cX4_init 24 = .ok (.newarray .int, 2) := by decide +kernel
theorem dX4_init_26 : decode cX4_init 26 = .ok (.putfield 16, 3) := by decide +kernel
theorem dX4_init_29 : decode cX4_init 29 = .ok (.iconst 0, 1) := by decide +kernel
theorem dX4_init_30 : decode cX4_init 30 = .ok (.istore_n 1, 1) := by decide +kernel
theorem dX4_init_31 : decode cX4_init 31 = .ok (.iload_n 1, 1) := by decide +kernel
theorem dX4_init_32 : decode cX4_init 32 = .ok (.bipush 8, 2) := by decide +kernel
theorem dX4_init_34 : decode cX4_init 34 = .ok (.if_icmp .ge 16, 3) := by decide +kernel
theorem dX4_init_37 : decode cX4_init 37 = .ok (.aload_n 0, 1) := by decide +kernel
theorem dX4_init_38 : decode cX4_init 38 = .ok (.getfield 9, 3) := by decide +kernel
theorem dX4_init_41 : decode cX4_init 41 = .ok (.iload_n 1, 1) := by decide +kernel
theorem dX4_init_42 : decode cX4_init 42 = .ok (.iconst (-1), 1) := by decide +kernel
theorem dX4_init_43 : decode cX4_init 43 = .ok (.iastore, 1) := by decide +kernel
theorem dX4_init_44 : decode cX4_init 44 = .ok (.iinc 1 1, 3) := by decide +kernel
theorem dX4_init_47 : decode cX4_init 47 = .ok (.goto (-16), 3) := by decide +kernel
theorem dX4_init_50 : decode cX4_init 50 = .ok (.return_, 1) := by decide +kernel
theorem dX4_start_0 : decode cX4_start 0 = .ok (.iload_n 0, 1) := by decide +kernel
theorem dX4_start_1 : decode cX4_start 1 = .ok (.bipush 40, 2) := by decide +kernel
theorem dX4_start_3 : decode cX4_start 3 = .ok (.imul, 1) := by decide +kernel
theorem dX4_start_4 : decode cX4_start 4 = .ok (.ireturn, 1) := by decide +kernel
theorem dX4_isMissing_0 : decode cX4_isMissing 0 = .ok (.aload_n 0, 1) := by decide +kernel
theorem dX4_isMissing_1 : decode cX4_isMissing 1 = .ok (.getfield 9, 3) := by decide +kernel
theorem dX4_isMissing_4 : decode cX4_isMissing 4 = .ok (.iload_n 1, 1) := by decide +kernel
theorem dX4_isMissing_5 : decode cX4_isMissing 5 = .ok (.iaload, 1) := by decide +kernel
theorem dX4_isMissing_6 : decode cX4_isMissing 6 = .ok (.iconst (-1), 1) := by decide +kernel
theorem dX4_isMissing_7 : decode cX4_isMissing 7 = .ok (.if_icmp .ne 7, 3) := by decide +kernel
theorem dX4_isMissing_10 : decode cX4_isMissing 10 = .ok (.iconst 1, 1) := by decide +kernel
theorem dX4_isMissing_11 : decode cX4_isMissing 11 = .ok (.goto 4, 3) := by decide +kernel
theorem dX4_isMissing_14 : decode cX4_isMissing 14 = .ok (.iconst 0, 1) := by decide +kernel
theorem dX4_isMissing_15 : decode cX4_isMissing 15 = .ok (.ireturn, 1) := by decide +kernel
theorem dX4_hasPlaces_0 : decode cX4_hasPlaces 0 = .ok (.iload_n 2, 1) := by decide +kernel
theorem dX4_hasPlaces_1 : decode cX4_hasPlaces 1 = .ok (.ifCond .lt 23, 3) := by decide +kernel
theorem dX4_hasPlaces_4 : decode cX4_hasPlaces 4 = .ok (.iload_n 3, 1) := by decide +kernel
theorem dX4_hasPlaces_5 : decode cX4_hasPlaces 5 = .ok (.ifCond .lt 19, 3) := by decide +kernel
theorem dX4_hasPlaces_8 : decode cX4_hasPlaces 8 = .ok (.iload_n 2, 1) := by decide +kernel
theorem dX4_hasPlaces_9 : decode cX4_hasPlaces 9 = .ok (.aload_n 0, 1) := by decide +kernel
theorem dX4_hasPlaces_10 : decode cX4_hasPlaces 10 = .ok (.getfield 13, 3) := by decide +kernel
theorem dX4_hasPlaces_13 : decode cX4_hasPlaces 13 = .ok (.iload_n 1, 1) := by decide +kernel
theorem dX4_hasPlaces_14 : decode cX4_hasPlaces 14 = .ok (.iaload, 1) := by decide +kernel
theorem dX4_hasPlaces_15 : decode cX4_hasPlaces 15 = .ok (.iload_n 3, 1) := by decide +kernel
theorem dX4_hasPlaces_16 : decode cX4_hasPlaces 16 = .ok (.isub, 1) := by decide +kernel
theorem dX4_hasPlaces_17 : decode cX4_hasPlaces 17 = .ok (.if_icmp .gt 7, 3) := by decide +kernel
theorem dX4_hasPlaces_20 : decode cX4_hasPlaces 20 = .ok (.iconst 1, 1) := by decide +kernel
theorem dX4_hasPlaces_21 : decode cX4_hasPlaces 21 = .ok (.goto 4, 3) := by decide +kernel
theorem dX4_hasPlaces_24 : decode cX4_hasPlaces 24 = .ok (.iconst 0, 1) := by decide +kernel
theorem dX4_hasPlaces_25 : decode cX4_hasPlaces 25 = .ok (.ireturn, 1) := by decide +kernel
theorem dX4_make_0 : decode cX4_make 0 = .ok (.aload_n 0, 1) := by decide +kernel
theorem dX4_make_1 : decode cX4_make 1 = .ok (.getfield 9, 3) := by decide +kernel
theorem dX4_make_4 : decode cX4_make 4 = .ok (.iload_n 1, 1) := by decide +kernel
theorem dX4_make_5 : decode cX4_make 5 = .ok (.iload_n 2, 1) := by decide +kernel
theorem dX4_make_6 : decode cX4_make 6 = .ok (.iastore, 1) := by decide +kernel
theorem dX4_make_7 : decode cX4_make 7 = .ok (.aload_n 0, 1) := by decide +kernel
theorem dX4_make_8 : decode cX4_make 8 = .ok (.getfield 13, 3) := by decide +kernel
theorem dX4_make_11 : decode cX4_make 11 = .ok (.iload_n 1, 1) := by decide +kernel
theorem dX4_make_12 : decode cX4_make 12 = .ok (.iload_n 3, 1) := by decide +kernel
theorem dX4_make_13 : decode cX4_make 13 = .ok (.iastore, 1) := by decide +kernel
theorem dX4_make_14 : decode cX4_make 14 = .ok (.iconst 0, 1) := by decide +kernel
theorem dX4_make_15 : decode cX4_make 15 = .ok (.istore 4, 2) := by decide +kernel
theorem dX4_make_17 : decode cX4_make 17 = .ok (.iload 4, 2) := by decide +kernel
theorem dX4_make_19 : decode cX4_make 19 = .ok (.iload_n 3, 1) := by decide +kernel
theorem dX4_make_20 : decode cX4_make 20 = .ok (.if_icmp .ge 22, 3) := by decide +kernel
theorem dX4_make_23 : decode cX4_make 23 = .ok (.aload_n 0, 1) := by decide +kernel
theorem dX4_make_24 : decode cX4_make 24 = .ok (.getfield 16, 3) := by decide +kernel
theorem dX4_make_27 : decode cX4_make 27 = .ok (.iload_n 1, 1) := by decide +kernel
theorem dX4_make_28 : decode cX4_make 28 = .ok (.invokestatic 19, 3) := by decide +kernel
theorem dX4_make_31 : decode cX4_make 31 = .ok (.iload 4, 2) := by decide +kernel
theorem dX4_make_33 : decode cX4_make 33 = .ok (.iadd, 1) := by decide +kernel
theorem dX4_make_34 : decode cX4_make 34 = .ok (.iconst 0, 1) := by decide +kernel
theorem dX4_make_35 : decode cX4_make 35 = .ok (.iastore, 1) := by decide +kernel
theorem dX4_make_36 : decode cX4_make 36 = .ok (.iinc 4 1, 3) := by decide +kernel
theorem dX4_make_39 : decode cX4_make 39 = .ok (.goto (-22), 3) := by decide +kernel
theorem dX4_make_42 : decode cX4_make 42 = .ok (.return_, 1) := by decide +kernel
theorem dX4_put_0 : decode cX4_put 0 = .ok (.aload_n 0, 1) := by decide +kernel
theorem dX4_put_1 : decode cX4_put 1 = .ok (.getfield 9, 3) := by decide +kernel
theorem dX4_put_4 : decode cX4_put 4 = .ok (.iload_n 1, 1) := by decide +kernel
theorem dX4_put_5 : decode cX4_put 5 = .ok (.iaload, 1) := by decide +kernel
theorem dX4_put_6 : decode cX4_put 6 = .ok (.iload_n 3, 1) := by decide +kernel
theorem dX4_put_7 : decode cX4_put 7 = .ok (.invokestatic 23, 3) := by decide +kernel
theorem dX4_put_10 : decode cX4_put 10 = .ok (.istore 4, 2) := by decide +kernel
theorem dX4_put_12 : decode cX4_put 12 = .ok (.aload_n 0, 1) := by decide +kernel
theorem dX4_put_13 : decode cX4_put 13 = .ok (.getfield 16, 3) := by decide +kernel
theorem dX4_put_16 : decode cX4_put 16 = .ok (.iload_n 1, 1) := by decide +kernel
theorem dX4_put_17 : decode cX4_put 17 = .ok (.invokestatic 19, 3) := by decide +kernel
theorem dX4_put_20 : decode cX4_put 20 = .ok (.iload_n 2, 1) := by decide +kernel
theorem dX4_put_21 : decode cX4_put 21 = .ok (.iadd, 1) := by decide +kernel
theorem dX4_put_22 : decode cX4_put 22 = .ok (.iload 4, 2) := by decide +kernel
theorem dX4_put_24 : decode cX4_put 24 = .ok (.iastore, 1) := by decide +kernel
theorem dX4_put_25 : decode cX4_put 25 = .ok (.iload 4, 2) := by decide +kernel
theorem dX4_put_27 : decode cX4_put 27 = .ok (.ireturn, 1) := by decide +kernel
theorem dX4_forget_0 : decode cX4_forget 0 = .ok (.aload_n 0, 1) := by decide +kernel
theorem dX4_forget_1 : decode cX4_forget 1 = .ok (.getfield 9, 3) := by decide +kernel
theorem dX4_forget_4 : decode cX4_forget 4 = .ok (.iload_n 1, 1) := by decide +kernel
theorem dX4_forget_5 : decode cX4_forget 5 = .ok (.iconst (-1), 1) := by decide +kernel
theorem dX4_forget_6 : decode cX4_forget 6 = .ok (.iastore, 1) := by decide +kernel
theorem dX4_forget_7 : decode cX4_forget 7 = .ok (.aload_n 0, 1) := by decide +kernel
theorem dX4_forget_8 : decode cX4_forget 8 = .ok (.getfield 13, 3) := by decide +kernel
theorem dX4_forget_11 : decode cX4_forget 11 = .ok (.iload_n 1, 1) := by decide +kernel
theorem dX4_forget_12 : decode cX4_forget 12 = .ok (.iaload, 1) := by decide +kernel
theorem dX4_forget_13 : decode cX4_forget 13 = .ok (.ireturn, 1) := by decide +kernel
theorem dX4_present_0 : decode cX4_present 0 = .ok (.iconst 0, 1) := by decide +kernel
theorem dX4_present_1 : decode cX4_present 1 = .ok (.istore_n 1, 1) := by decide +kernel
theorem dX4_present_2 : decode cX4_present 2 = .ok (.iconst 0, 1) := by decide +kernel
theorem dX4_present_3 : decode cX4_present 3 = .ok (.istore_n 2, 1) := by decide +kernel
theorem dX4_present_4 : decode cX4_present 4 = .ok (.iload_n 2, 1) := by decide +kernel
theorem dX4_present_5 : decode cX4_present 5 = .ok (.bipush 8, 2) := by decide +kernel
theorem dX4_present_7 : decode cX4_present 7 = .ok (.if_icmp .ge 25, 3) := by decide +kernel
theorem dX4_present_10 : decode cX4_present 10 = .ok (.iload_n 1, 1) := by decide +kernel
theorem dX4_present_11 : decode cX4_present 11 = .ok (.aload_n 0, 1) := by decide +kernel
theorem dX4_present_12 : decode cX4_present 12 = .ok (.iload_n 2, 1) := by decide +kernel
theorem dX4_present_13 : decode cX4_present 13 = .ok (.invokevirtual 27, 3) := by decide +kernel
theorem dX4_present_16 : decode cX4_present 16 = .ok (.ifCond .eq 7, 3) := by decide +kernel
theorem dX4_present_19 : decode cX4_present 19 = .ok (.iconst 0, 1) := by decide +kernel
theorem dX4_present_20 : decode cX4_present 20 = .ok (.goto 4, 3) := by decide +kernel
theorem dX4_present_23 : decode cX4_present 23 = .ok (.iconst 1, 1) := by decide +kernel
theorem dX4_present_24 : decode cX4_present 24 = .ok (.iadd, 1) := by decide +kernel
theorem dX4_present_25 : decode cX4_present 25 = .ok (.istore_n 1, 1) := by decide +kernel
theorem dX4_present_26 : decode cX4_present 26 = .ok (.iinc 2 1, 3) := by decide +kernel
theorem dX4_present_29 : decode cX4_present 29 = .ok (.goto (-25), 3) := by decide +kernel
theorem dX4_present_32 : decode cX4_present 32 = .ok (.iload_n 1, 1) := by decide +kernel
theorem dX4_present_33 : decode cX4_present 33 = .ok (.ireturn, 1) := by decide +kernel
theorem dX4_cutToLane_0 : decode cX4_cutToLane 0 = .ok (.iload_n 0, 1) := by decide +kernel
theorem dX4_cutToLane_1 : decode cX4_cutToLane 1 = .ok (.lookupswitch 33 #[(0, 27), (1, 30)], 27) := by decide +kernel
theorem dX4_cutToLane_28 : decode cX4_cutToLane 28 = .ok (.iload_n 1, 1) := by decide +kernel
theorem dX4_cutToLane_29 : decode cX4_cutToLane 29 = .ok (.i2b, 1) := by decide +kernel
theorem dX4_cutToLane_30 : decode cX4_cutToLane 30 = .ok (.ireturn, 1) := by decide +kernel
theorem dX4_cutToLane_31 : decode cX4_cutToLane 31 = .ok (.iload_n 1, 1) := by decide +kernel
theorem dX4_cutToLane_32 : decode cX4_cutToLane 32 = .ok (.i2s, 1) := by decide +kernel
theorem dX4_cutToLane_33 : decode cX4_cutToLane 33 = .ok (.ireturn, 1) := by decide +kernel
theorem dX4_cutToLane_34 : decode cX4_cutToLane 34 = .ok (.iload_n 1, 1) := by decide +kernel
theorem dX4_cutToLane_35 : decode cX4_cutToLane 35 = .ok (.ireturn, 1) := by decide +kernel
theorem dX5_init_0 : decode cX5_init 0 = .ok (.aload_n 0, 1) := by decide +kernel
theorem dX5_init_1 : decode cX5_init 1 = .ok (.invokespecial 3, 3) := by decide +kernel
theorem dX5_init_4 : decode cX5_init 4 = .ok (.aload_n 0, 1) := by decide +kernel
theorem dX5_init_5 : decode cX5_init 5 = .ok (.new 9, 3) := by decide +kernel
theorem dX5_init_8 : decode cX5_init 8 = .ok (.dup, 1) := by decide +kernel
theorem dX5_init_9 : decode cX5_init 9 = .ok (.invokespecial 11, 3) := by decide +kernel
theorem dX5_init_12 : decode cX5_init 12 = .ok (.putfield 12, 3) := by decide +kernel
theorem dX5_init_15 : decode cX5_init 15 = .ok (.aload_n 0, 1) := by decide +kernel
theorem dX5_init_16 : decode cX5_init 16 = .ok (.bipush 100, 2) := by decide +kernel
theorem dX5_init_18 : decode cX5_init 18 = .ok (.newarray .int, 2) := by decide +kernel
theorem dX5_init_20 : decode cX5_init 20 = .ok (.putfield 18, 3) := by decide +kernel
theorem dX5_init_23 : decode cX5_init 23 = .ok (.aload_n 0, 1) := by decide +kernel
theorem dX5_init_24 : decode cX5_init 24 = .ok (.iconst 0, 1) := by decide +kernel
theorem dX5_init_25 : decode cX5_init 25 = .ok (.putfield 22, 3) := by decide +kernel
theorem dX5_init_28 : decode cX5_init 28 = .ok (.aload_n 0, 1) := by decide +kernel
theorem dX5_init_29 : decode cX5_init 29 = .ok (.iconst 0, 1) := by decide +kernel
theorem dX5_init_30 : decode cX5_init 30 = .ok (.putfield 26, 3) := by decide +kernel
theorem dX5_init_33 : decode cX5_init 33 = .ok (.aload_n 0, 1) := by decide +kernel
theorem dX5_init_34 : decode cX5_init 34 = .ok (.iconst 0, 1) := by decide +kernel
theorem dX5_init_35 : decode cX5_init 35 = .ok (.putfield 29, 3) := by decide +kernel
theorem dX5_init_38 : decode cX5_init 38 = .ok (.return_, 1) := by decide +kernel
theorem dX5_isFull_0 : decode cX5_isFull 0 = .ok (.aload_n 0, 1) := by decide +kernel
theorem dX5_isFull_1 : decode cX5_isFull 1 = .ok (.getfield 22, 3) := by decide +kernel
theorem dX5_isFull_4 : decode cX5_isFull 4 = .ok (.bipush 100, 2) := by decide +kernel
theorem dX5_isFull_6 : decode cX5_isFull 6 = .ok (.if_icmp .lt 7, 3) := by decide +kernel
theorem dX5_isFull_9 : decode cX5_isFull 9 = .ok (.iconst 1, 1) := by decide +kernel
theorem dX5_isFull_10 : decode cX5_isFull 10 = .ok (.goto 4, 3) := by decide +kernel
theorem dX5_isFull_13 : decode cX5_isFull 13 = .ok (.iconst 0, 1) := by decide +kernel
theorem dX5_isFull_14 : decode cX5_isFull 14 = .ok (.ireturn, 1) := by decide +kernel
theorem dX5_put_0 : decode cX5_put 0 = .ok (.aload_n 0, 1) := by decide +kernel
theorem dX5_put_1 : decode cX5_put 1 = .ok (.getfield 18, 3) := by decide +kernel
theorem dX5_put_4 : decode cX5_put 4 = .ok (.aload_n 0, 1) := by decide +kernel
theorem dX5_put_5 : decode cX5_put 5 = .ok (.getfield 22, 3) := by decide +kernel
theorem dX5_put_8 : decode cX5_put 8 = .ok (.iload_n 1, 1) := by decide +kernel
theorem dX5_put_9 : decode cX5_put 9 = .ok (.iastore, 1) := by decide +kernel
theorem dX5_put_10 : decode cX5_put 10 = .ok (.aload_n 0, 1) := by decide +kernel
theorem dX5_put_11 : decode cX5_put 11 = .ok (.dup, 1) := by decide +kernel
theorem dX5_put_12 : decode cX5_put 12 = .ok (.getfield 22, 3) := by decide +kernel
theorem dX5_put_15 : decode cX5_put 15 = .ok (.iconst 1, 1) := by decide +kernel
theorem dX5_put_16 : decode cX5_put 16 = .ok (.iadd, 1) := by decide +kernel
theorem dX5_put_17 : decode cX5_put 17 = .ok (.putfield 22, 3) := by decide +kernel
theorem dX5_put_20 : decode cX5_put 20 = .ok (.aload_n 0, 1) := by decide +kernel
theorem dX5_put_21 : decode cX5_put 21 = .ok (.getfield 22, 3) := by decide +kernel
theorem dX5_put_24 : decode cX5_put 24 = .ok (.ireturn, 1) := by decide +kernel
theorem dX5_readWhole_0 : decode cX5_readWhole 0 = .ok (.aload_n 0, 1) := by decide +kernel
theorem dX5_readWhole_1 : decode cX5_readWhole 1 = .ok (.iconst 0, 1) := by decide +kernel
theorem dX5_readWhole_2 : decode cX5_readWhole 2 = .ok (.putfield 26, 3) := by decide +kernel
theorem dX5_readWhole_5 : decode cX5_readWhole 5 = .ok (.aload_n 0, 1) := by decide +kernel
theorem dX5_readWhole_6 : decode cX5_readWhole 6 = .ok (.getfield 12, 3) := by decide +kernel
theorem dX5_readWhole_9 : decode cX5_readWhole 9 = .ok (.iconst 0, 1) := by decide +kernel
theorem dX5_readWhole_10 : decode cX5_readWhole 10 = .ok (.putfield 32, 3) := by decide +kernel
theorem dX5_readWhole_13 : decode cX5_readWhole 13 = .ok (.aload_n 0, 1) := by decide +kernel
theorem dX5_readWhole_14 : decode cX5_readWhole 14 = .ok (.getfield 12, 3) := by decide +kernel
theorem dX5_readWhole_17 : decode cX5_readWhole 17 = .ok (.iconst 0, 1) := by decide +kernel
theorem dX5_readWhole_18 : decode cX5_readWhole 18 = .ok (.putfield 35, 3) := by decide +kernel
theorem dX5_readWhole_21 : decode cX5_readWhole 21 = .ok (.aload_n 0, 1) := by decide +kernel
theorem dX5_readWhole_22 : decode cX5_readWhole 22 = .ok (.getfield 12, 3) := by decide +kernel
theorem dX5_readWhole_25 : decode cX5_readWhole 25 = .ok (.iconst 0, 1) := by decide +kernel
theorem dX5_readWhole_26 : decode cX5_readWhole 26 = .ok (.putfield 38, 3) := by decide +kernel
theorem dX5_readWhole_29 : decode cX5_readWhole 29 = .ok (.aload_n 0, 1) := by decide +kernel
theorem dX5_readWhole_30 : decode cX5_readWhole 30 = .ok (.invokevirtual 41, 3) := by decide +kernel
theorem dX5_readWhole_33 : decode cX5_readWhole 33 = .ok (.ifCond .eq 21, 3) := by decide +kernel
theorem dX5_readWhole_36 : decode cX5_readWhole 36 = .ok (.aload_n 0, 1) := by decide +kernel
theorem dX5_readWhole_37 : decode cX5_readWhole 37 = .ok (.invokevirtual 45, 3) := by decide +kernel
theorem dX5_readWhole_40 : decode cX5_readWhole 40 = .ok (.ifCond .eq 14, 3) := by decide +kernel
theorem dX5_readWhole_43 : decode cX5_readWhole 43 = .ok (.aload_n 0, 1) := by decide +kernel
theorem dX5_readWhole_44 : decode cX5_readWhole 44 = .ok (.invokevirtual 48, 3) := by decide +kernel
theorem dX5_readWhole_47 : decode cX5_readWhole 47 = .ok (.ifCond .eq 7, 3) := by decide +kernel
theorem dX5_readWhole_50 : decode cX5_readWhole 50 = .ok (.iconst 1, 1) := by decide +kernel
theorem dX5_readWhole_51 : decode cX5_readWhole 51 = .ok (.goto 4, 3) := by decide +kernel
theorem dX5_readWhole_54 : decode cX5_readWhole 54 = .ok (.iconst 0, 1) := by decide +kernel
theorem dX5_readWhole_55 : decode cX5_readWhole 55 = .ok (.ireturn, 1) := by decide +kernel
theorem dX5_readLaw_0 : decode cX5_readLaw 0 = .ok (.aload_n 0, 1) := by decide +kernel
theorem dX5_readLaw_1 : decode cX5_readLaw 1 = .ok (.bipush 104, 2) := by decide +kernel
theorem dX5_readLaw_3 : decode cX5_readLaw 3 = .ok (.invokevirtual 51, 3) := by decide +kernel
theorem dX5_readLaw_6 : decode cX5_readLaw 6 = .ok (.ifCond .ne 5, 3) := by decide +kernel
theorem dX5_readLaw_9 : decode cX5_readLaw 9 = .ok (.iconst 0, 1) := by decide +kernel
theorem dX5_readLaw_10 : decode cX5_readLaw 10 = .ok (.ireturn, 1) := by decide +kernel
theorem dX5_readLaw_11 : decode cX5_readLaw 11 = .ok (.aload_n 0, 1) := by decide +kernel
theorem dX5_readLaw_12 : decode cX5_readLaw 12 = .ok (.getfield 12, 3) := by decide +kernel
theorem dX5_readLaw_15 : decode cX5_readLaw 15 = .ok (.aload_n 0, 1) := by decide +kernel
theorem dX5_readLaw_16 : decode cX5_readLaw 16 = .ok (.iconst 0, 1) := by decide +kernel
theorem dX5_readLaw_17 : decode cX5_readLaw 17 = .ok (.bipush 15, 2) := by decide +kernel
theorem dX5_readLaw_19 : decode cX5_readLaw 19 = .ok (.invokevirtual 55, 3) := by decide +kernel
theorem dX5_readLaw_22 : decode cX5_readLaw 22 = .ok (.putfield 59, 3) := by decide +kernel
theorem dX5_readLaw_25 : decode cX5_readLaw 25 = .ok (.aload_n 0, 1) := by decide +kernel
theorem dX5_readLaw_26 : decode cX5_readLaw 26 = .ok (.getfield 12, 3) := by decide +kernel
theorem dX5_readLaw_29 : decode cX5_readLaw 29 = .ok (.getfield 59, 3) := by decide +kernel
theorem dX5_readLaw_32 : decode cX5_readLaw 32 = .ok (.iconst (-1), 1) := by decide +kernel
theorem dX5_readLaw_33 : decode cX5_readLaw 33 = .ok (.if_icmp .eq 12, 3) := by decide +kernel
theorem dX5_readLaw_36 : decode cX5_readLaw 36 = .ok (.aload_n 0, 1) := by decide +kernel
theorem dX5_readLaw_37 : decode cX5_readLaw 37 = .ok (.bipush 44, 2) := by decide +kernel
theorem dX5_readLaw_39 : decode cX5_readLaw 39 = .ok (.invokevirtual 51, 3) := by decide +kernel
theorem dX5_readLaw_42 : decode cX5_readLaw 42 = .ok (.ifCond .ne 5, 3) := by decide +kernel
theorem dX5_readLaw_45 : decode cX5_readLaw 45 = .ok (.iconst 0, 1) := by decide +kernel
theorem dX5_readLaw_46 : decode cX5_readLaw 46 = .ok (.ireturn, 1) := by decide +kernel
theorem dX5_readLaw_47 : decode cX5_readLaw 47 = .ok (.aload_n 0, 1) := by decide +kernel
theorem dX5_readLaw_48 : decode cX5_readLaw 48 = .ok (.getfield 12, 3) := by decide +kernel
theorem dX5_readLaw_51 : decode cX5_readLaw 51 = .ok (.aload_n 0, 1) := by decide +kernel
theorem dX5_readLaw_52 : decode cX5_readLaw 52 = .ok (.iconst 1, 1) := by decide +kernel
theorem dX5_readLaw_53 : decode cX5_readLaw 53 = .ok (.bipush 9, 2) := by decide +kernel
theorem dX5_readLaw_55 : decode cX5_readLaw 55 = .ok (.invokevirtual 55, 3) := by decide +kernel
theorem dX5_readLaw_58 : decode cX5_readLaw 58 = .ok (.putfield 62, 3) := by decide +kernel
theorem dX5_readLaw_61 : decode cX5_readLaw 61 = .ok (.aload_n 0, 1) := by decide +kernel
theorem dX5_readLaw_62 : decode cX5_readLaw 62 = .ok (.getfield 12, 3) := by decide +kernel
theorem dX5_readLaw_65 : decode cX5_readLaw 65 = .ok (.getfield 62, 3) := by decide +kernel
theorem dX5_readLaw_68 : decode cX5_readLaw 68 = .ok (.iconst (-1), 1) := by decide +kernel
theorem dX5_readLaw_69 : decode cX5_readLaw 69 = .ok (.if_icmp .eq 16, 3) := by decide +kernel
theorem dX5_readLaw_72 : decode cX5_readLaw 72 = .ok (.aload_n 0, 1) := by decide +kernel
theorem dX5_readLaw_73 : decode cX5_readLaw 73 = .ok (.bipush 59, 2) := by decide +kernel
theorem dX5_readLaw_75 : decode cX5_readLaw 75 = .ok (.invokevirtual 51, 3) := by decide +kernel
theorem dX5_readLaw_78 : decode cX5_readLaw 78 = .ok (.ifCond .eq 7, 3) := by decide +kernel
theorem dX5_readLaw_81 : decode cX5_readLaw 81 = .ok (.iconst 1, 1) := by decide +kernel
theorem dX5_readLaw_82 : decode cX5_readLaw 82 = .ok (.goto 4, 3) := by decide +kernel
theorem dX5_readLaw_85 : decode cX5_readLaw 85 = .ok (.iconst 0, 1) := by decide +kernel
theorem dX5_readLaw_86 : decode cX5_readLaw 86 = .ok (.ireturn, 1) := by decide +kernel
theorem dX5_readHearths_0 : decode cX5_readHearths 0 = .ok (.iconst 0, 1) := by decide +kernel
theorem dX5_readHearths_1 : decode cX5_readHearths 1 = .ok (.istore_n 1, 1) := by decide +kernel
theorem dX5_readHearths_2 : decode cX5_readHearths 2 = .ok (.iload_n 1, 1) := by decide +kernel
theorem dX5_readHearths_3 : decode cX5_readHearths 3 = .ok (.bipush 8, 2) := by decide +kernel
theorem dX5_readHearths_5 : decode cX5_readHearths 5 = .ok (.if_icmp .gt 47, 3) := by decide +kernel
theorem dX5_readHearths_8 : decode cX5_readHearths 8 = .ok (.iload_n 1, 1) := by decide +kernel
theorem dX5_readHearths_9 : decode cX5_readHearths 9 = .ok (.iconst 2, 1) := by decide +kernel
theorem dX5_readHearths_10 : decode cX5_readHearths 10 = .ok (.if_icmp .lt 14, 3) := by decide +kernel
theorem dX5_readHearths_13 : decode cX5_readHearths 13 = .ok (.aload_n 0, 1) := by decide +kernel
theorem dX5_readHearths_14 : decode cX5_readHearths 14 = .ok (.bipush 102, 2) := by decide +kernel
theorem dX5_readHearths_16 : decode cX5_readHearths 16 = .ok (.invokevirtual 65, 3) := by decide +kernel
theorem dX5_readHearths_19 : decode cX5_readHearths 19 = .ok (.ifCond .ne 5, 3) := by decide +kernel
theorem dX5_readHearths_22 : decode cX5_readHearths 22 = .ok (.iconst 1, 1) := by decide +kernel
theorem dX5_readHearths_23 : decode cX5_readHearths 23 = .ok (.ireturn, 1) := by decide +kernel
theorem dX5_readHearths_24 : decode cX5_readHearths 24 = .ok (.iload_n 1, 1) := by decide +kernel
theorem dX5_readHearths_25 : decode cX5_readHearths 25 = .ok (.bipush 8, 2) := by decide +kernel
theorem dX5_readHearths_27 : decode cX5_readHearths 27 = .ok (.if_icmp .ne 9, 3) := by decide +kernel
theorem dX5_readHearths_30 : decode cX5_readHearths 30 = .ok (.aload_n 0, 1) := by decide +kernel
theorem dX5_readHearths_31 : decode cX5_readHearths 31 = .ok (.iconst 3, 1) := by decide +kernel
theorem dX5_readHearths_32 : decode cX5_readHearths 32 = .ok (.invokevirtual 68, 3) := by decide +kernel
theorem dX5_readHearths_35 : decode cX5_readHearths 35 = .ok (.ireturn, 1) := by decide +kernel
theorem dX5_readHearths_36 : decode cX5_readHearths 36 = .ok (.aload_n 0, 1) := by decide +kernel
theorem dX5_readHearths_37 : decode cX5_readHearths 37 = .ok (.iload_n 1, 1) := by decide +kernel
theorem dX5_readHearths_38 : decode cX5_readHearths 38 = .ok (.invokevirtual 71, 3) := by decide +kernel
theorem dX5_readHearths_41 : decode cX5_readHearths 41 = .ok (.ifCond .ne 5, 3) := by decide +kernel
theorem dX5_readHearths_44 : decode cX5_readHearths 44 = .ok (.iconst 0, 1) := by decide +kernel
theorem dX5_readHearths_45 : decode cX5_readHearths 45 = .ok (.ireturn, 1) := by decide +kernel
theorem dX5_readHearths_46 : decode cX5_readHearths 46 = .ok (.iinc 1 1, 3) := by decide +kernel
theorem dX5_readHearths_49 : decode cX5_readHearths 49 = .ok (.goto (-47), 3) := by decide +kernel
theorem dX5_readHearths_52 : decode cX5_readHearths 52 = .ok (.iconst 1, 1) := by decide +kernel
theorem dX5_readHearths_53 : decode cX5_readHearths 53 = .ok (.ireturn, 1) := by decide +kernel
theorem dX5_readHearth_0 : decode cX5_readHearth 0 = .ok (.aload_n 0, 1) := by decide +kernel
theorem dX5_readHearth_1 : decode cX5_readHearth 1 = .ok (.bipush 102, 2) := by decide +kernel
theorem dX5_readHearth_3 : decode cX5_readHearth 3 = .ok (.invokevirtual 51, 3) := by decide +kernel
theorem dX5_readHearth_6 : decode cX5_readHearth 6 = .ok (.ifCond .ne 5, 3) := by decide +kernel
theorem dX5_readHearth_9 : decode cX5_readHearth 9 = .ok (.iconst 0, 1) := by decide +kernel
theorem dX5_readHearth_10 : decode cX5_readHearth 10 = .ok (.ireturn, 1) := by decide +kernel
theorem dX5_readHearth_11 : decode cX5_readHearth 11 = .ok (.aload_n 0, 1) := by decide +kernel
theorem dX5_readHearth_12 : decode cX5_readHearth 12 = .ok (.getfield 12, 3) := by decide +kernel
theorem dX5_readHearth_15 : decode cX5_readHearth 15 = .ok (.getfield 74, 3) := by decide +kernel
theorem dX5_readHearth_18 : decode cX5_readHearth 18 = .ok (.iload_n 1, 1) := by decide +kernel
theorem dX5_readHearth_19 : decode cX5_readHearth 19 = .ok (.aload_n 0, 1) := by decide +kernel
theorem dX5_readHearth_20 : decode cX5_readHearth 20 = .ok (.iconst 0, 1) := by decide +kernel
theorem dX5_readHearth_21 : decode cX5_readHearth 21 = .ok (.bipush 20, 2) := by decide +kernel
theorem dX5_readHearth_23 : decode cX5_readHearth 23 = .ok (.invokevirtual 55, 3) := by decide +kernel
theorem dX5_readHearth_26 : decode cX5_readHearth 26 = .ok (.iastore, 1) := by decide +kernel
theorem dX5_readHearth_27 : decode cX5_readHearth 27 = .ok (.aload_n 0, 1) := by decide +kernel
theorem dX5_readHearth_28 : decode cX5_readHearth 28 = .ok (.getfield 12, 3) := by decide +kernel
theorem dX5_readHearth_31 : decode cX5_readHearth 31 = .ok (.iload_n 1, 1) := by decide +kernel
theorem dX5_readHearth_32 : decode cX5_readHearth 32 = .ok (.iconst 1, 1) := by decide +kernel
theorem dX5_readHearth_33 : decode cX5_readHearth 33 = .ok (.iadd, 1) := by decide +kernel
theorem dX5_readHearth_34 : decode cX5_readHearth 34 = .ok (.putfield 35, 3) := by decide +kernel
theorem dX5_readHearth_37 : decode cX5_readHearth 37 = .ok (.aload_n 0, 1) := by decide +kernel
theorem dX5_readHearth_38 : decode cX5_readHearth 38 = .ok (.getfield 12, 3) := by decide +kernel
theorem dX5_readHearth_41 : decode cX5_readHearth 41 = .ok (.getfield 74, 3) := by decide +kernel
theorem dX5_readHearth_44 : decode cX5_readHearth 44 = .ok (.iload_n 1, 1) := by decide +kernel
theorem dX5_readHearth_45 : decode cX5_readHearth 45 = .ok (.iaload, 1) := by decide +kernel
theorem dX5_readHearth_46 : decode cX5_readHearth 46 = .ok (.iconst (-1), 1) := by decide +kernel
theorem dX5_readHearth_47 : decode cX5_readHearth 47 = .ok (.if_icmp .eq 16, 3) := by decide +kernel
theorem dX5_readHearth_50 : decode cX5_readHearth 50 = .ok (.aload_n 0, 1) := by decide +kernel
theorem dX5_readHearth_51 : decode cX5_readHearth 51 = .ok (.bipush 59, 2) := by decide +kernel
theorem dX5_readHearth_53 : decode cX5_readHearth 53 = .ok (.invokevirtual 51, 3) := by decide +kernel
theorem dX5_readHearth_56 : decode cX5_readHearth 56 = .ok (.ifCond .eq 7, 3) := by decide +kernel
theorem dX5_readHearth_59 : decode cX5_readHearth 59 = .ok (.iconst 1, 1) := by decide +kernel
theorem dX5_readHearth_60 : decode cX5_readHearth 60 = .ok (.goto 4, 3) := by decide +kernel
theorem dX5_readHearth_63 : decode cX5_readHearth 63 = .ok (.iconst 0, 1) := by decide +kernel
theorem dX5_readHearth_64 : decode cX5_readHearth 64 = .ok (.ireturn, 1) := by decide +kernel
theorem dX5_readPairs_0 : decode cX5_readPairs 0 = .ok (.iconst 0, 1) := by decide +kernel
theorem dX5_readPairs_1 : decode cX5_readPairs 1 = .ok (.istore_n 1, 1) := by decide +kernel
theorem dX5_readPairs_2 : decode cX5_readPairs 2 = .ok (.iload_n 1, 1) := by decide +kernel
theorem dX5_readPairs_3 : decode cX5_readPairs 3 = .ok (.bipush 7, 2) := by decide +kernel
theorem dX5_readPairs_5 : decode cX5_readPairs 5 = .ok (.if_icmp .gt 87, 3) := by decide +kernel
theorem dX5_readPairs_8 : decode cX5_readPairs 8 = .ok (.aload_n 0, 1) := by decide +kernel
theorem dX5_readPairs_9 : decode cX5_readPairs 9 = .ok (.getfield 26, 3) := by decide +kernel
theorem dX5_readPairs_12 : decode cX5_readPairs 12 = .ok (.aload_n 0, 1) := by decide +kernel
theorem dX5_readPairs_13 : decode cX5_readPairs 13 = .ok (.getfield 22, 3) := by decide +kernel
theorem dX5_readPairs_16 : decode cX5_readPairs 16 = .ok (.if_icmp .lt 5, 3) := by decide +kernel
theorem dX5_readPairs_19 : decode cX5_readPairs 19 = .ok (.iconst 1, 1) := by decide +kernel
theorem dX5_readPairs_20 : decode cX5_readPairs 20 = .ok (.ireturn, 1) := by decide +kernel
theorem dX5_readPairs_21 : decode cX5_readPairs 21 = .ok (.aload_n 0, 1) := by decide +kernel
theorem dX5_readPairs_22 : decode cX5_readPairs 22 = .ok (.getfield 18, 3) := by decide +kernel
theorem dX5_readPairs_25 : decode cX5_readPairs 25 = .ok (.aload_n 0, 1) := by decide +kernel
theorem dX5_readPairs_26 : decode cX5_readPairs 26 = .ok (.getfield 26, 3) := by decide +kernel
theorem dX5_readPairs_29 : decode cX5_readPairs 29 = .ok (.iaload, 1) := by decide +kernel
theorem dX5_readPairs_30 : decode cX5_readPairs 30 = .ok (.invokestatic 77, 3) := by decide +kernel
theorem dX5_readPairs_33 : decode cX5_readPairs 33 = .ok (.istore_n 2, 1) := by decide +kernel
theorem dX5_readPairs_34 : decode cX5_readPairs 34 = .ok (.iload_n 2, 1) := by decide +kernel
theorem dX5_readPairs_35 : decode cX5_readPairs 35 = .ok (.ifCond .ne 9, 3) := by decide +kernel
theorem dX5_readPairs_38 : decode cX5_readPairs 38 = .ok (.aload_n 0, 1) := by decide +kernel
theorem dX5_readPairs_39 : decode cX5_readPairs 39 = .ok (.iconst 1, 1) := by decide +kernel
theorem dX5_readPairs_40 : decode cX5_readPairs 40 = .ok (.invokevirtual 68, 3) := by decide +kernel
theorem dX5_readPairs_43 : decode cX5_readPairs 43 = .ok (.ireturn, 1) := by decide +kernel
theorem dX5_readPairs_44 : decode cX5_readPairs 44 = .ok (.iload_n 1, 1) := by decide +kernel
theorem dX5_readPairs_45 : decode cX5_readPairs 45 = .ok (.bipush 7, 2) := by decide +kernel
theorem dX5_readPairs_47 : decode cX5_readPairs 47 = .ok (.if_icmp .ne 9, 3) := by decide +kernel
theorem dX5_readPairs_50 : decode cX5_readPairs 50 = .ok (.aload_n 0, 1) := by decide +kernel
theorem dX5_readPairs_51 : decode cX5_readPairs 51 = .ok (.iconst 3, 1) := by decide +kernel
theorem dX5_readPairs_52 : decode cX5_readPairs 52 = .ok (.invokevirtual 68, 3) := by decide +kernel
theorem dX5_readPairs_55 : decode cX5_readPairs 55 = .ok (.ireturn, 1) := by decide +kernel
theorem dX5_readPairs_56 : decode cX5_readPairs 56 = .ok (.aload_n 0, 1) := by decide +kernel
theorem dX5_readPairs_57 : decode cX5_readPairs 57 = .ok (.dup, 1) := by decide +kernel
theorem dX5_readPairs_58 : decode cX5_readPairs 58 = .ok (.getfield 26, 3) := by decide +kernel
theorem dX5_readPairs_61 : decode cX5_readPairs 61 = .ok (.iconst 1, 1) := by decide +kernel
theorem dX5_readPairs_62 : decode cX5_readPairs 62 = .ok (.iadd, 1) := by decide +kernel
theorem dX5_readPairs_63 : decode cX5_readPairs 63 = .ok (.putfield 26, 3) := by decide +kernel
theorem dX5_readPairs_66 : decode cX5_readPairs 66 = .ok (.aload_n 0, 1) := by decide +kernel
theorem dX5_readPairs_67 : decode cX5_readPairs 67 = .ok (.getfield 12, 3) := by decide +kernel
theorem dX5_readPairs_70 : decode cX5_readPairs 70 = .ok (.getfield 81, 3) := by decide +kernel
theorem dX5_readPairs_73 : decode cX5_readPairs 73 = .ok (.iload_n 1, 1) := by decide +kernel
theorem dX5_readPairs_74 : decode cX5_readPairs 74 = .ok (.iload_n 2, 1) := by decide +kernel
theorem dX5_readPairs_75 : decode cX5_readPairs 75 = .ok (.iastore, 1) := by decide +kernel
theorem dX5_readPairs_76 : decode cX5_readPairs 76 = .ok (.aload_n 0, 1) := by decide +kernel
theorem dX5_readPairs_77 : decode cX5_readPairs 77 = .ok (.iload_n 1, 1) := by decide +kernel
theorem dX5_readPairs_78 : decode cX5_readPairs 78 = .ok (.invokevirtual 84, 3) := by decide +kernel
theorem dX5_readPairs_81 : decode cX5_readPairs 81 = .ok (.ifCond .ne 5, 3) := by decide +kernel
theorem dX5_readPairs_84 : decode cX5_readPairs 84 = .ok (.iconst 0, 1) := by decide +kernel
theorem dX5_readPairs_85 : decode cX5_readPairs 85 = .ok (.ireturn, 1) := by decide +kernel
theorem dX5_readPairs_86 : decode cX5_readPairs 86 = .ok (.iinc 1 1, 3) := by decide +kernel
theorem dX5_readPairs_89 : decode cX5_readPairs 89 = .ok (.goto (-87), 3) := by decide +kernel
theorem dX5_readPairs_92 : decode cX5_readPairs 92 = .ok (.iconst 1, 1) := by decide +kernel
theorem dX5_readPairs_93 : decode cX5_readPairs 93 = .ok (.ireturn, 1) := by decide +kernel
theorem dX5_readPair_0 : decode cX5_readPair 0 = .ok (.aload_n 0, 1) := by decide +kernel
theorem dX5_readPair_1 : decode cX5_readPair 1 = .ok (.getfield 12, 3) := by decide +kernel
theorem dX5_readPair_4 : decode cX5_readPair 4 = .ok (.getfield 87, 3) := by decide +kernel
theorem dX5_readPair_7 : decode cX5_readPair 7 = .ok (.iload_n 1, 1) := by decide +kernel
theorem dX5_readPair_8 : decode cX5_readPair 8 = .ok (.aload_n 0, 1) := by decide +kernel
theorem dX5_readPair_9 : decode cX5_readPair 9 = .ok (.iconst 0, 1) := by decide +kernel
theorem dX5_readPair_10 : decode cX5_readPair 10 = .ok (.bipush 40, 2) := by decide +kernel
theorem dX5_readPair_12 : decode cX5_readPair 12 = .ok (.invokevirtual 55, 3) := by decide +kernel
theorem dX5_readPair_15 : decode cX5_readPair 15 = .ok (.iastore, 1) := by decide +kernel
theorem dX5_readPair_16 : decode cX5_readPair 16 = .ok (.aload_n 0, 1) := by decide +kernel
theorem dX5_readPair_17 : decode cX5_readPair 17 = .ok (.getfield 12, 3) := by decide +kernel
theorem dX5_readPair_20 : decode cX5_readPair 20 = .ok (.getfield 87, 3) := by decide +kernel
theorem dX5_readPair_23 : decode cX5_readPair 23 = .ok (.iload_n 1, 1) := by decide +kernel
theorem dX5_readPair_24 : decode cX5_readPair 24 = .ok (.iaload, 1) := by decide +kernel
theorem dX5_readPair_25 : decode cX5_readPair 25 = .ok (.iconst (-1), 1) := by decide +kernel
theorem dX5_readPair_26 : decode cX5_readPair 26 = .ok (.if_icmp .eq 12, 3) := by decide +kernel
theorem dX5_readPair_29 : decode cX5_readPair 29 = .ok (.aload_n 0, 1) := by decide +kernel
theorem dX5_readPair_30 : decode cX5_readPair 30 = .ok (.bipush 44, 2) := by decide +kernel
theorem dX5_readPair_32 : decode cX5_readPair 32 = .ok (.invokevirtual 51, 3) := by decide +kernel
theorem dX5_readPair_35 : decode cX5_readPair 35 = .ok (.ifCond .ne 5, 3) := by decide +kernel
theorem dX5_readPair_38 : decode cX5_readPair 38 = .ok (.iconst 0, 1) := by decide +kernel
theorem dX5_readPair_39 : decode cX5_readPair 39 = .ok (.ireturn, 1) := by decide +kernel
theorem dX5_readPair_40 : decode cX5_readPair 40 = .ok (.aload_n 0, 1) := by decide +kernel
theorem dX5_readPair_41 : decode cX5_readPair 41 = .ok (.getfield 12, 3) := by decide +kernel
theorem dX5_readPair_44 : decode cX5_readPair 44 = .ok (.getfield 90, 3) := by decide +kernel
theorem dX5_readPair_47 : decode cX5_readPair 47 = .ok (.iload_n 1, 1) := by decide +kernel
theorem dX5_readPair_48 : decode cX5_readPair 48 = .ok (.aload_n 0, 1) := by decide +kernel
theorem dX5_readPair_49 : decode cX5_readPair 49 = .ok (.iconst 0, 1) := by decide +kernel
theorem dX5_readPair_50 : decode cX5_readPair 50 = .ok (.aload_n 0, 1) := by decide +kernel
theorem dX5_readPair_51 : decode cX5_readPair 51 = .ok (.getfield 12, 3) := by decide +kernel
theorem dX5_readPair_54 : decode cX5_readPair 54 = .ok (.getfield 35, 3) := by decide +kernel
theorem dX5_readPair_57 : decode cX5_readPair 57 = .ok (.iconst 1, 1) := by decide +kernel
theorem dX5_readPair_58 : decode cX5_readPair 58 = .ok (.isub, 1) := by decide +kernel
theorem dX5_readPair_59 : decode cX5_readPair 59 = .ok (.invokevirtual 55, 3) := by decide +kernel
theorem dX5_readPair_62 : decode cX5_readPair 62 = .ok (.iastore, 1) := by decide +kernel
theorem dX5_readPair_63 : decode cX5_readPair 63 = .ok (.aload_n 0, 1) := by decide +kernel
theorem dX5_readPair_64 : decode cX5_readPair 64 = .ok (.getfield 12, 3) := by decide +kernel
theorem dX5_readPair_67 : decode cX5_readPair 67 = .ok (.getfield 90, 3) := by decide +kernel
theorem dX5_readPair_70 : decode cX5_readPair 70 = .ok (.iload_n 1, 1) := by decide +kernel
theorem dX5_readPair_71 : decode cX5_readPair 71 = .ok (.iaload, 1) := by decide +kernel
theorem dX5_readPair_72 : decode cX5_readPair 72 = .ok (.iconst (-1), 1) := by decide +kernel
theorem dX5_readPair_73 : decode cX5_readPair 73 = .ok (.if_icmp .eq 12, 3) := by decide +kernel
theorem dX5_readPair_76 : decode cX5_readPair 76 = .ok (.aload_n 0, 1) := by decide +kernel
theorem dX5_readPair_77 : decode cX5_readPair 77 = .ok (.bipush 44, 2) := by decide +kernel
theorem dX5_readPair_79 : decode cX5_readPair 79 = .ok (.invokevirtual 51, 3) := by decide +kernel
theorem dX5_readPair_82 : decode cX5_readPair 82 = .ok (.ifCond .ne 5, 3) := by decide +kernel
theorem dX5_readPair_85 : decode cX5_readPair 85 = .ok (.iconst 0, 1) := by decide +kernel
theorem dX5_readPair_86 : decode cX5_readPair 86 = .ok (.ireturn, 1) := by decide +kernel
theorem dX5_readPair_87 : decode cX5_readPair 87 = .ok (.aload_n 0, 1) := by decide +kernel
theorem dX5_readPair_88 : decode cX5_readPair 88 = .ok (.getfield 12, 3) := by decide +kernel
theorem dX5_readPair_91 : decode cX5_readPair 91 = .ok (.getfield 93, 3) := by decide +kernel
theorem dX5_readPair_94 : decode cX5_readPair 94 = .ok (.iload_n 1, 1) := by decide +kernel
theorem dX5_readPair_95 : decode cX5_readPair 95 = .ok (.aload_n 0, 1) := by decide +kernel
theorem dX5_readPair_96 : decode cX5_readPair 96 = .ok (.iconst 0, 1) := by decide +kernel
theorem dX5_readPair_97 : decode cX5_readPair 97 = .ok (.iconst 1, 1) := by decide +kernel
theorem dX5_readPair_98 : decode cX5_readPair 98 = .ok (.invokevirtual 55, 3) := by decide +kernel
