theorem dX7_days_42 : decode cX7_days 42 = .ok (.iload_n 2, 1) := by decide +kernel
theorem dX7_days_43 : decode cX7_days 43 = .ok (.iload_n 1, 1) := by decide +kernel
theorem dX7_days_44 : decode cX7_days 44 = .ok (.if_icmp .ge 21, 3) := by decide +kernel
theorem dX7_days_47 : decode cX7_days 47 = .ok (.aload_n 0, 1) := by decide +kernel
theorem dX7_days_48 : decode cX7_days 48 = .ok (.invokevirtual 184, 3) := by decide +kernel
theorem dX7_days_51 : decode cX7_days 51 = .ok (.aload_n 0, 1) := by decide +kernel
theorem dX7_days_52 : decode cX7_days 52 = .ok (.aload_n 0, 1) := by decide +kernel
theorem dX7_days_53 : decode cX7_days 53 = .ok (.getfield 25, 3) := by decide +kernel
theorem dX7_days_56 : decode cX7_days 56 = .ok (.invokevirtual 187, 3) := by decide +kernel
theorem dX7_days_59 : decode cX7_days 59 = .ok (.iinc 2 1, 3) := by decide +kernel
theorem dX7_days_62 : decode cX7_days 62 = .ok (.goto (-20), 3) := by decide +kernel
theorem dX7_days_65 : decode cX7_days 65 = .ok (.aload_n 0, 1) := by decide +kernel
theorem dX7_days_66 : decode cX7_days 66 = .ok (.getfield 25, 3) := by decide +kernel
theorem dX7_days_69 : decode cX7_days 69 = .ok (.invokestatic 191, 3) := by decide +kernel
theorem dX7_days_72 : decode cX7_days 72 = .ok (.ireturn, 1) := by decide +kernel
theorem dX7_peg_0 : decode cX7_peg 0 = .ok (.aload_n 0, 1) := by decide +kernel
theorem dX7_peg_1 : decode cX7_peg 1 = .ok (.iload_n 1, 1) := by decide +kernel
theorem dX7_peg_2 : decode cX7_peg 2 = .ok (.invokevirtual 195, 3) := by decide +kernel
theorem dX7_peg_5 : decode cX7_peg 5 = .ok (.ifCond .eq 12, 3) := by decide +kernel
theorem dX7_peg_8 : decode cX7_peg 8 = .ok (.iload_n 2, 1) := by decide +kernel
theorem dX7_peg_9 : decode cX7_peg 9 = .ok (.iconst 0, 1) := by decide +kernel
theorem dX7_peg_10 : decode cX7_peg 10 = .ok (.iconst 1, 1) := by decide +kernel
theorem dX7_peg_11 : decode cX7_peg 11 = .ok (.invokestatic 65, 3) := by decide +kernel
theorem dX7_peg_14 : decode cX7_peg 14 = .ok (.ifCond .ne 6, 3) := by decide +kernel
theorem dX7_peg_17 : decode cX7_peg 17 = .ok (.ldc 73, 2) := by decide +kernel
theorem dX7_peg_19 : decode cX7_peg 19 = .ok (.ireturn, 1) := by decide +kernel
theorem dX7_peg_20 : decode cX7_peg 20 = .ok (.aload_n 0, 1) := by decide +kernel
theorem dX7_peg_21 : decode cX7_peg 21 = .ok (.getfield 25, 3) := by decide +kernel
theorem dX7_peg_24 : decode cX7_peg 24 = .ok (.bipush 13, 2) := by decide +kernel
theorem dX7_peg_26 : decode cX7_peg 26 = .ok (.iconst 4, 1) := by decide +kernel
theorem dX7_peg_27 : decode cX7_peg 27 = .ok (.iload_n 1, 1) := by decide +kernel
theorem dX7_peg_28 : decode cX7_peg 28 = .ok (.imul, 1) := by decide +kernel
theorem dX7_peg_29 : decode cX7_peg 29 = .ok (.iadd, 1) := by decide +kernel
theorem dX7_peg_30 : decode cX7_peg 30 = .ok (.iconst 3, 1) := by decide +kernel
theorem dX7_peg_31 : decode cX7_peg 31 = .ok (.iadd, 1) := by decide +kernel
theorem dX7_peg_32 : decode cX7_peg 32 = .ok (.iaload, 1) := by decide +kernel
theorem dX7_peg_33 : decode cX7_peg 33 = .ok (.iload_n 2, 1) := by decide +kernel
theorem dX7_peg_34 : decode cX7_peg 34 = .ok (.if_icmp .ne 6, 3) := by decide +kernel
theorem dX7_peg_37 : decode cX7_peg 37 = .ok (.ldc 183, 2) := by decide +kernel
theorem dX7_peg_39 : decode cX7_peg 39 = .ok (.ireturn, 1) := by decide +kernel
theorem dX7_peg_40 : decode cX7_peg 40 = .ok (.aload_n 0, 1) := by decide +kernel
theorem dX7_peg_41 : decode cX7_peg 41 = .ok (.invokevirtual 184, 3) := by decide +kernel
theorem dX7_peg_44 : decode cX7_peg 44 = .ok (.aload_n 0, 1) := by decide +kernel
theorem dX7_peg_45 : decode cX7_peg 45 = .ok (.getfield 25, 3) := by decide +kernel
theorem dX7_peg_48 : decode cX7_peg 48 = .ok (.bipush 13, 2) := by decide +kernel
theorem dX7_peg_50 : decode cX7_peg 50 = .ok (.iconst 4, 1) := by decide +kernel
theorem dX7_peg_51 : decode cX7_peg 51 = .ok (.iload_n 1, 1) := by decide +kernel
theorem dX7_peg_52 : decode cX7_peg 52 = .ok (.imul, 1) := by decide +kernel
theorem dX7_peg_53 : decode cX7_peg 53 = .ok (.iadd, 1) := by decide +kernel
theorem dX7_peg_54 : decode cX7_peg 54 = .ok (.iconst 3, 1) := by decide +kernel
theorem dX7_peg_55 : decode cX7_peg 55 = .ok (.iadd, 1) := by decide +kernel
theorem dX7_peg_56 : decode cX7_peg 56 = .ok (.iload_n 2, 1) := by decide +kernel
theorem dX7_peg_57 : decode cX7_peg 57 = .ok (.iastore, 1) := by decide +kernel
theorem dX7_peg_58 : decode cX7_peg 58 = .ok (.aload_n 0, 1) := by decide +kernel
theorem dX7_peg_59 : decode cX7_peg 59 = .ok (.getfield 25, 3) := by decide +kernel
theorem dX7_peg_62 : decode cX7_peg 62 = .ok (.invokestatic 198, 3) := by decide +kernel
theorem dX7_peg_65 : decode cX7_peg 65 = .ok (.ireturn, 1) := by decide +kernel
theorem dX7_move_0 : decode cX7_move 0 = .ok (.aload_n 0, 1) := by decide +kernel
theorem dX7_move_1 : decode cX7_move 1 = .ok (.iload_n 1, 1) := by decide +kernel
theorem dX7_move_2 : decode cX7_move 2 = .ok (.invokevirtual 195, 3) := by decide +kernel
theorem dX7_move_5 : decode cX7_move 5 = .ok (.ifCond .eq 11, 3) := by decide +kernel
theorem dX7_move_8 : decode cX7_move 8 = .ok (.aload_n 0, 1) := by decide +kernel
theorem dX7_move_9 : decode cX7_move 9 = .ok (.iload_n 2, 1) := by decide +kernel
theorem dX7_move_10 : decode cX7_move 10 = .ok (.invokevirtual 201, 3) := by decide +kernel
theorem dX7_move_13 : decode cX7_move 13 = .ok (.ifCond .ne 6, 3) := by decide +kernel
theorem dX7_move_16 : decode cX7_move 16 = .ok (.ldc 73, 2) := by decide +kernel
theorem dX7_move_18 : decode cX7_move 18 = .ok (.ireturn, 1) := by decide +kernel
theorem dX7_move_19 : decode cX7_move 19 = .ok (.aload_n 0, 1) := by decide +kernel
theorem dX7_move_20 : decode cX7_move 20 = .ok (.getfield 25, 3) := by decide +kernel
theorem dX7_move_23 : decode cX7_move 23 = .ok (.bipush 13, 2) := by decide +kernel
theorem dX7_move_25 : decode cX7_move 25 = .ok (.iconst 4, 1) := by decide +kernel
theorem dX7_move_26 : decode cX7_move 26 = .ok (.iload_n 1, 1) := by decide +kernel
theorem dX7_move_27 : decode cX7_move 27 = .ok (.imul, 1) := by decide +kernel
theorem dX7_move_28 : decode cX7_move 28 = .ok (.iadd, 1) := by decide +kernel
theorem dX7_move_29 : decode cX7_move 29 = .ok (.iconst 2, 1) := by decide +kernel
theorem dX7_move_30 : decode cX7_move 30 = .ok (.iadd, 1) := by decide +kernel
theorem dX7_move_31 : decode cX7_move 31 = .ok (.iaload, 1) := by decide +kernel
theorem dX7_move_32 : decode cX7_move 32 = .ok (.istore_n 3, 1) := by decide +kernel
theorem dX7_move_33 : decode cX7_move 33 = .ok (.iload_n 3, 1) := by decide +kernel
theorem dX7_move_34 : decode cX7_move 34 = .ok (.iload_n 2, 1) := by decide +kernel
theorem dX7_move_35 : decode cX7_move 35 = .ok (.if_icmp .ne 6, 3) := by decide +kernel
theorem dX7_move_38 : decode cX7_move 38 = .ok (.ldc 183, 2) := by decide +kernel
theorem dX7_move_40 : decode cX7_move 40 = .ok (.ireturn, 1) := by decide +kernel
theorem dX7_move_41 : decode cX7_move 41 = .ok (.aload_n 0, 1) := by decide +kernel
theorem dX7_move_42 : decode cX7_move 42 = .ok (.invokevirtual 184, 3) := by decide +kernel
theorem dX7_move_45 : decode cX7_move 45 = .ok (.aload_n 0, 1) := by decide +kernel
theorem dX7_move_46 : decode cX7_move 46 = .ok (.getfield 25, 3) := by decide +kernel
theorem dX7_move_49 : decode cX7_move 49 = .ok (.bipush 13, 2) := by decide +kernel
theorem dX7_move_51 : decode cX7_move 51 = .ok (.iconst 4, 1) := by decide +kernel
theorem dX7_move_52 : decode cX7_move 52 = .ok (.iload_n 1, 1) := by decide +kernel
theorem dX7_move_53 : decode cX7_move 53 = .ok (.imul, 1) := by decide +kernel
theorem dX7_move_54 : decode cX7_move 54 = .ok (.iadd, 1) := by decide +kernel
theorem dX7_move_55 : decode cX7_move 55 = .ok (.iconst 2, 1) := by decide +kernel
theorem dX7_move_56 : decode cX7_move 56 = .ok (.iadd, 1) := by decide +kernel
theorem dX7_move_57 : decode cX7_move 57 = .ok (.iload_n 2, 1) := by decide +kernel
theorem dX7_move_58 : decode cX7_move 58 = .ok (.iastore, 1) := by decide +kernel
theorem dX7_move_59 : decode cX7_move 59 = .ok (.iload_n 3, 1) := by decide +kernel
theorem dX7_move_60 : decode cX7_move 60 = .ok (.ireturn, 1) := by decide +kernel
theorem dX7_light_0 : decode cX7_light 0 = .ok (.aload_n 0, 1) := by decide +kernel
theorem dX7_light_1 : decode cX7_light 1 = .ok (.iload_n 1, 1) := by decide +kernel
theorem dX7_light_2 : decode cX7_light 2 = .ok (.invokevirtual 201, 3) := by decide +kernel
theorem dX7_light_5 : decode cX7_light 5 = .ok (.ifCond .eq 13, 3) := by decide +kernel
theorem dX7_light_8 : decode cX7_light 8 = .ok (.iload_n 2, 1) := by decide +kernel
theorem dX7_light_9 : decode cX7_light 9 = .ok (.iconst 0, 1) := by decide +kernel
theorem dX7_light_10 : decode cX7_light 10 = .ok (.bipush 20, 2) := by decide +kernel
theorem dX7_light_12 : decode cX7_light 12 = .ok (.invokestatic 65, 3) := by decide +kernel
theorem dX7_light_15 : decode cX7_light 15 = .ok (.ifCond .ne 6, 3) := by decide +kernel
theorem dX7_light_18 : decode cX7_light 18 = .ok (.ldc 73, 2) := by decide +kernel
theorem dX7_light_20 : decode cX7_light 20 = .ok (.ireturn, 1) := by decide +kernel
theorem dX7_light_21 : decode cX7_light 21 = .ok (.aload_n 0, 1) := by decide +kernel
theorem dX7_light_22 : decode cX7_light 22 = .ok (.invokevirtual 184, 3) := by decide +kernel
theorem dX7_light_25 : decode cX7_light 25 = .ok (.aload_n 0, 1) := by decide +kernel
theorem dX7_light_26 : decode cX7_light 26 = .ok (.getfield 25, 3) := by decide +kernel
theorem dX7_light_29 : decode cX7_light 29 = .ok (.iconst 5, 1) := by decide +kernel
theorem dX7_light_30 : decode cX7_light 30 = .ok (.iload_n 1, 1) := by decide +kernel
theorem dX7_light_31 : decode cX7_light 31 = .ok (.iadd, 1) := by decide +kernel
theorem dX7_light_32 : decode cX7_light 32 = .ok (.iaload, 1) := by decide +kernel
theorem dX7_light_33 : decode cX7_light 33 = .ok (.istore_n 3, 1) := by decide +kernel
theorem dX7_light_34 : decode cX7_light 34 = .ok (.aload_n 0, 1) := by decide +kernel
theorem dX7_light_35 : decode cX7_light 35 = .ok (.getfield 25, 3) := by decide +kernel
theorem dX7_light_38 : decode cX7_light 38 = .ok (.iconst 5, 1) := by decide +kernel
theorem dX7_light_39 : decode cX7_light 39 = .ok (.iload_n 1, 1) := by decide +kernel
theorem dX7_light_40 : decode cX7_light 40 = .ok (.iadd, 1) := by decide +kernel
theorem dX7_light_41 : decode cX7_light 41 = .ok (.iload_n 2, 1) := by decide +kernel
theorem dX7_light_42 : decode cX7_light 42 = .ok (.iastore, 1) := by decide +kernel
theorem dX7_light_43 : decode cX7_light 43 = .ok (.iload_n 3, 1) := by decide +kernel
theorem dX7_light_44 : decode cX7_light 44 = .ok (.ireturn, 1) := by decide +kernel
theorem dX7_weather_0 : decode cX7_weather 0 = .ok (.aload_n 0, 1) := by decide +kernel
theorem dX7_weather_1 : decode cX7_weather 1 = .ok (.invokevirtual 180, 3) := by decide +kernel
theorem dX7_weather_4 : decode cX7_weather 4 = .ok (.ifCond .ne 6, 3) := by decide +kernel
theorem dX7_weather_7 : decode cX7_weather 7 = .ok (.ldc 183, 2) := by decide +kernel
theorem dX7_weather_9 : decode cX7_weather 9 = .ok (.ireturn, 1) := by decide +kernel
theorem dX7_weather_10 : decode cX7_weather 10 = .ok (.iload_n 1, 1) := by decide +kernel
theorem dX7_weather_11 : decode cX7_weather 11 = .ok (.iconst 0, 1) := by decide +kernel
theorem dX7_weather_12 : decode cX7_weather 12 = .ok (.bipush 15, 2) := by decide +kernel
theorem dX7_weather_14 : decode cX7_weather 14 = .ok (.invokestatic 65, 3) := by decide +kernel
theorem dX7_weather_17 : decode cX7_weather 17 = .ok (.ifCond .ne 6, 3) := by decide +kernel
theorem dX7_weather_20 : decode cX7_weather 20 = .ok (.ldc 73, 2) := by decide +kernel
theorem dX7_weather_22 : decode cX7_weather 22 = .ok (.ireturn, 1) := by decide +kernel
theorem dX7_weather_23 : decode cX7_weather 23 = .ok (.aload_n 0, 1) := by decide +kernel
theorem dX7_weather_24 : decode cX7_weather 24 = .ok (.invokevirtual 184, 3) := by decide +kernel
theorem dX7_weather_27 : decode cX7_weather 27 = .ok (.aload_n 0, 1) := by decide +kernel
theorem dX7_weather_28 : decode cX7_weather 28 = .ok (.getfield 25, 3) := by decide +kernel
theorem dX7_weather_31 : decode cX7_weather 31 = .ok (.iconst 0, 1) := by decide +kernel
theorem dX7_weather_32 : decode cX7_weather 32 = .ok (.iaload, 1) := by decide +kernel
theorem dX7_weather_33 : decode cX7_weather 33 = .ok (.istore_n 2, 1) := by decide +kernel
theorem dX7_weather_34 : decode cX7_weather 34 = .ok (.aload_n 0, 1) := by decide +kernel
theorem dX7_weather_35 : decode cX7_weather 35 = .ok (.getfield 25, 3) := by decide +kernel
theorem dX7_weather_38 : decode cX7_weather 38 = .ok (.iconst 0, 1) := by decide +kernel
theorem dX7_weather_39 : decode cX7_weather 39 = .ok (.iload_n 1, 1) := by decide +kernel
theorem dX7_weather_40 : decode cX7_weather 40 = .ok (.iastore, 1) := by decide +kernel
theorem dX7_weather_41 : decode cX7_weather 41 = .ok (.iload_n 2, 1) := by decide +kernel
theorem dX7_weather_42 : decode cX7_weather 42 = .ok (.ireturn, 1) := by decide +kernel
theorem dX7_undo_0 : decode cX7_undo 0 = .ok (.aload_n 0, 1) := by decide +kernel
theorem dX7_undo_1 : decode cX7_undo 1 = .ok (.getfield 151, 3) := by decide +kernel
theorem dX7_undo_4 : decode cX7_undo 4 = .ok (.ifCond .ne 6, 3) := by decide +kernel
theorem dX7_undo_7 : decode cX7_undo 7 = .ok (.ldc 183, 2) := by decide +kernel
theorem dX7_undo_9 : decode cX7_undo 9 = .ok (.ireturn, 1) := by decide +kernel
theorem dX7_undo_10 : decode cX7_undo 10 = .ok (.aload_n 0, 1) := by decide +kernel
theorem dX7_undo_11 : decode cX7_undo 11 = .ok (.dup, 1) := by decide +kernel
theorem dX7_undo_12 : decode cX7_undo 12 = .ok (.getfield 151, 3) := by decide +kernel
theorem dX7_undo_15 : decode cX7_undo 15 = .ok (.iconst 1, 1) := by decide +kernel
theorem dX7_undo_16 : decode cX7_undo 16 = .ok (.isub, 1) := by decide +kernel
theorem dX7_undo_17 : decode cX7_undo 17 = .ok (.putfield 151, 3) := by decide +kernel
theorem dX7_undo_20 : decode cX7_undo 20 = .ok (.aload_n 0, 1) := by decide +kernel
theorem dX7_undo_21 : decode cX7_undo 21 = .ok (.getfield 34, 3) := by decide +kernel
theorem dX7_undo_24 : decode cX7_undo 24 = .ok (.bipush 41, 2) := by decide +kernel
theorem dX7_undo_26 : decode cX7_undo 26 = .ok (.aload_n 0, 1) := by decide +kernel
theorem dX7_undo_27 : decode cX7_undo 27 = .ok (.getfield 151, 3) := by decide +kernel
theorem dX7_undo_30 : decode cX7_undo 30 = .ok (.imul, 1) := by decide +kernel
theorem dX7_undo_31 : decode cX7_undo 31 = .ok (.aload_n 0, 1) := by decide +kernel
theorem dX7_undo_32 : decode cX7_undo 32 = .ok (.getfield 25, 3) := by decide +kernel
theorem dX7_undo_35 : decode cX7_undo 35 = .ok (.iconst 0, 1) := by decide +kernel
theorem dX7_undo_36 : decode cX7_undo 36 = .ok (.invokestatic 147, 3) := by decide +kernel
theorem dX7_undo_39 : decode cX7_undo 39 = .ok (.aload_n 0, 1) := by decide +kernel
theorem dX7_undo_40 : decode cX7_undo 40 = .ok (.getfield 151, 3) := by decide +kernel
theorem dX7_undo_43 : decode cX7_undo 43 = .ok (.ireturn, 1) := by decide +kernel
theorem dX7_pair_0 : decode cX7_pair 0 = .ok (.aload_n 0, 1) := by decide +kernel
theorem dX7_pair_1 : decode cX7_pair 1 = .ok (.iload_n 1, 1) := by decide +kernel
theorem dX7_pair_2 : decode cX7_pair 2 = .ok (.invokevirtual 195, 3) := by decide +kernel
theorem dX7_pair_5 : decode cX7_pair 5 = .ok (.ifCond .ne 6, 3) := by decide +kernel
theorem dX7_pair_8 : decode cX7_pair 8 = .ok (.ldc 73, 2) := by decide +kernel
theorem dX7_pair_10 : decode cX7_pair 10 = .ok (.ireturn, 1) := by decide +kernel
theorem dX7_pair_11 : decode cX7_pair 11 = .ok (.bipush 13, 2) := by decide +kernel
theorem dX7_pair_13 : decode cX7_pair 13 = .ok (.iconst 4, 1) := by decide +kernel
theorem dX7_pair_14 : decode cX7_pair 14 = .ok (.iload_n 1, 1) := by decide +kernel
theorem dX7_pair_15 : decode cX7_pair 15 = .ok (.imul, 1) := by decide +kernel
theorem dX7_pair_16 : decode cX7_pair 16 = .ok (.iadd, 1) := by decide +kernel
theorem dX7_pair_17 : decode cX7_pair 17 = .ok (.istore_n 3, 1) := by decide +kernel
theorem dX7_pair_18 : decode cX7_pair 18 = .ok (.iload_n 2, 1) := by decide +kernel
theorem dX7_pair_19 : decode cX7_pair 19 = .ok (.tableswitch 58 0 3 #[29, 29, 29, 40], 29) := by decide +kernel
theorem dX7_pair_48 : decode cX7_pair 48 = .ok (.aload_n 0, 1) := by decide +kernel
theorem dX7_pair_49 : decode cX7_pair 49 = .ok (.getfield 25, 3) := by decide +kernel
theorem dX7_pair_52 : decode cX7_pair 52 = .ok (.iload_n 3, 1) := by decide +kernel
theorem dX7_pair_53 : decode cX7_pair 53 = .ok (.iconst 1, 1) := by decide +kernel
theorem dX7_pair_54 : decode cX7_pair 54 = .ok (.iadd, 1) := by decide +kernel
theorem dX7_pair_55 : decode cX7_pair 55 = .ok (.iload_n 2, 1) := by decide +kernel
theorem dX7_pair_56 : decode cX7_pair 56 = .ok (.iadd, 1) := by decide +kernel
theorem dX7_pair_57 : decode cX7_pair 57 = .ok (.iaload, 1) := by decide +kernel
theorem dX7_pair_58 : decode cX7_pair 58 = .ok (.ireturn, 1) := by decide +kernel
theorem dX7_pair_59 : decode cX7_pair 59 = .ok (.aload_n 0, 1) := by decide +kernel
theorem dX7_pair_60 : decode cX7_pair 60 = .ok (.getfield 25, 3) := by decide +kernel
theorem dX7_pair_63 : decode cX7_pair 63 = .ok (.iload_n 1, 1) := by decide +kernel
theorem dX7_pair_64 : decode cX7_pair 64 = .ok (.invokestatic 173, 3) := by decide +kernel
theorem dX7_pair_67 : decode cX7_pair 67 = .ok (.aload_n 0, 1) := by decide +kernel
theorem dX7_pair_68 : decode cX7_pair 68 = .ok (.getfield 25, 3) := by decide +kernel
theorem dX7_pair_71 : decode cX7_pair 71 = .ok (.iload_n 3, 1) := by decide +kernel
theorem dX7_pair_72 : decode cX7_pair 72 = .ok (.iconst 1, 1) := by decide +kernel
theorem dX7_pair_73 : decode cX7_pair 73 = .ok (.iadd, 1) := by decide +kernel
theorem dX7_pair_74 : decode cX7_pair 74 = .ok (.iaload, 1) := by decide +kernel
theorem dX7_pair_75 : decode cX7_pair 75 = .ok (.isub, 1) := by decide +kernel
theorem dX7_pair_76 : decode cX7_pair 76 = .ok (.ireturn, 1) := by decide +kernel
theorem dX7_pair_77 : decode cX7_pair 77 = .ok (.ldc 73, 2) := by decide +kernel
theorem dX7_pair_79 : decode cX7_pair 79 = .ok (.ireturn, 1) := by decide +kernel
theorem dX7_pairsAt_0 : decode cX7_pairsAt 0 = .ok (.iconst 0, 1) := by decide +kernel
theorem dX7_pairsAt_1 : decode cX7_pairsAt 1 = .ok (.istore_n 2, 1) := by decide +kernel
theorem dX7_pairsAt_2 : decode cX7_pairsAt 2 = .ok (.iconst 0, 1) := by decide +kernel
theorem dX7_pairsAt_3 : decode cX7_pairsAt 3 = .ok (.istore_n 3, 1) := by decide +kernel
theorem dX7_pairsAt_4 : decode cX7_pairsAt 4 = .ok (.iload_n 3, 1) := by decide +kernel
theorem dX7_pairsAt_5 : decode cX7_pairsAt 5 = .ok (.aload_n 0, 1) := by decide +kernel
theorem dX7_pairsAt_6 : decode cX7_pairsAt 6 = .ok (.getfield 25, 3) := by decide +kernel
theorem dX7_pairsAt_9 : decode cX7_pairsAt 9 = .ok (.iconst 3, 1) := by decide +kernel
theorem dX7_pairsAt_10 : decode cX7_pairsAt 10 = .ok (.iaload, 1) := by decide +kernel
theorem dX7_pairsAt_11 : decode cX7_pairsAt 11 = .ok (.if_icmp .ge 36, 3) := by decide +kernel
theorem dX7_pairsAt_14 : decode cX7_pairsAt 14 = .ok (.iload_n 2, 1) := by decide +kernel
theorem dX7_pairsAt_15 : decode cX7_pairsAt 15 = .ok (.aload_n 0, 1) := by decide +kernel
theorem dX7_pairsAt_16 : decode cX7_pairsAt 16 = .ok (.getfield 25, 3) := by decide +kernel
theorem dX7_pairsAt_19 : decode cX7_pairsAt 19 = .ok (.bipush 13, 2) := by decide +kernel
theorem dX7_pairsAt_21 : decode cX7_pairsAt 21 = .ok (.iconst 4, 1) := by decide +kernel
theorem dX7_pairsAt_22 : decode cX7_pairsAt 22 = .ok (.iload_n 3, 1) := by decide +kernel
theorem dX7_pairsAt_23 : decode cX7_pairsAt 23 = .ok (.imul, 1) := by decide +kernel
theorem dX7_pairsAt_24 : decode cX7_pairsAt 24 = .ok (.iadd, 1) := by decide +kernel
theorem dX7_pairsAt_25 : decode cX7_pairsAt 25 = .ok (.iconst 2, 1) := by decide +kernel
theorem dX7_pairsAt_26 : decode cX7_pairsAt 26 = .ok (.iadd, 1) := by decide +kernel
theorem dX7_pairsAt_27 : decode cX7_pairsAt 27 = .ok (.iaload, 1) := by decide +kernel
theorem dX7_pairsAt_28 : decode cX7_pairsAt 28 = .ok (.iload_n 1, 1) := by decide +kernel
theorem dX7_pairsAt_29 : decode cX7_pairsAt 29 = .ok (.if_icmp .ne 9, 3) := by decide +kernel
theorem dX7_pairsAt_32 : decode cX7_pairsAt 32 = .ok (.iconst 1, 1) := by decide +kernel
theorem dX7_pairsAt_33 : decode cX7_pairsAt 33 = .ok (.iload_n 3, 1) := by decide +kernel
theorem dX7_pairsAt_34 : decode cX7_pairsAt 34 = .ok (.ishl, 1) := by decide +kernel
theorem dX7_pairsAt_35 : decode cX7_pairsAt 35 = .ok (.goto 4, 3) := by decide +kernel
theorem dX7_pairsAt_38 : decode cX7_pairsAt 38 = .ok (.iconst 0, 1) := by decide +kernel
theorem dX7_pairsAt_39 : decode cX7_pairsAt 39 = .ok (.ior, 1) := by decide +kernel
theorem dX7_pairsAt_40 : decode cX7_pairsAt 40 = .ok (.istore_n 2, 1) := by decide +kernel
theorem dX7_pairsAt_41 : decode cX7_pairsAt 41 = .ok (.iinc 3 1, 3) := by decide +kernel
theorem dX7_pairsAt_44 : decode cX7_pairsAt 44 = .ok (.goto (-40), 3) := by decide +kernel
theorem dX7_pairsAt_47 : decode cX7_pairsAt 47 = .ok (.iload_n 2, 1) := by decide +kernel
theorem dX7_pairsAt_48 : decode cX7_pairsAt 48 = .ok (.ireturn, 1) := by decide +kernel
theorem dX7_blownInto_0 : decode cX7_blownInto 0 = .ok (.iconst 0, 1) := by decide +kernel
theorem dX7_blownInto_1 : decode cX7_blownInto 1 = .ok (.istore_n 2, 1) := by decide +kernel
theorem dX7_blownInto_2 : decode cX7_blownInto 2 = .ok (.iconst 0, 1) := by decide +kernel
theorem dX7_blownInto_3 : decode cX7_blownInto 3 = .ok (.istore_n 3, 1) := by decide +kernel
theorem dX7_blownInto_4 : decode cX7_blownInto 4 = .ok (.iload_n 3, 1) := by decide +kernel
theorem dX7_blownInto_5 : decode cX7_blownInto 5 = .ok (.aload_n 0, 1) := by decide +kernel
theorem dX7_blownInto_6 : decode cX7_blownInto 6 = .ok (.getfield 25, 3) := by decide +kernel
theorem dX7_blownInto_9 : decode cX7_blownInto 9 = .ok (.iconst 3, 1) := by decide +kernel
theorem dX7_blownInto_10 : decode cX7_blownInto 10 = .ok (.iaload, 1) := by decide +kernel
theorem dX7_blownInto_11 : decode cX7_blownInto 11 = .ok (.if_icmp .ge 41, 3) := by decide +kernel
theorem dX7_blownInto_14 : decode cX7_blownInto 14 = .ok (.iload_n 2, 1) := by decide +kernel
theorem dX7_blownInto_15 : decode cX7_blownInto 15 = .ok (.aload_n 0, 1) := by decide +kernel
theorem dX7_blownInto_16 : decode cX7_blownInto 16 = .ok (.getfield 25, 3) := by decide +kernel
theorem dX7_blownInto_19 : decode cX7_blownInto 19 = .ok (.bipush 13, 2) := by decide +kernel
theorem dX7_blownInto_21 : decode cX7_blownInto 21 = .ok (.iconst 4, 1) := by decide +kernel
theorem dX7_blownInto_22 : decode cX7_blownInto 22 = .ok (.iload_n 3, 1) := by decide +kernel
theorem dX7_blownInto_23 : decode cX7_blownInto 23 = .ok (.imul, 1) := by decide +kernel
theorem dX7_blownInto_24 : decode cX7_blownInto 24 = .ok (.iadd, 1) := by decide +kernel
theorem dX7_blownInto_25 : decode cX7_blownInto 25 = .ok (.iconst 2, 1) := by decide +kernel
theorem dX7_blownInto_26 : decode cX7_blownInto 26 = .ok (.iadd, 1) := by decide +kernel
theorem dX7_blownInto_27 : decode cX7_blownInto 27 = .ok (.iaload, 1) := by decide +kernel
theorem dX7_blownInto_28 : decode cX7_blownInto 28 = .ok (.iload_n 1, 1) := by decide +kernel
theorem dX7_blownInto_29 : decode cX7_blownInto 29 = .ok (.if_icmp .ne 14, 3) := by decide +kernel
theorem dX7_blownInto_32 : decode cX7_blownInto 32 = .ok (.aload_n 0, 1) := by decide +kernel
theorem dX7_blownInto_33 : decode cX7_blownInto 33 = .ok (.getfield 25, 3) := by decide +kernel
theorem dX7_blownInto_36 : decode cX7_blownInto 36 = .ok (.iload_n 3, 1) := by decide +kernel
theorem dX7_blownInto_37 : decode cX7_blownInto 37 = .ok (.invokestatic 165, 3) := by decide +kernel
theorem dX7_blownInto_40 : decode cX7_blownInto 40 = .ok (.goto 4, 3) := by decide +kernel
theorem dX7_blownInto_43 : decode cX7_blownInto 43 = .ok (.iconst 0, 1) := by decide +kernel
theorem dX7_blownInto_44 : decode cX7_blownInto 44 = .ok (.iadd, 1) := by decide +kernel
theorem dX7_blownInto_45 : decode cX7_blownInto 45 = .ok (.istore_n 2, 1) := by decide +kernel
theorem dX7_blownInto_46 : decode cX7_blownInto 46 = .ok (.iinc 3 1, 3) := by decide +kernel
theorem dX7_blownInto_49 : decode cX7_blownInto 49 = .ok (.goto (-45), 3) := by decide +kernel
theorem dX7_blownInto_52 : decode cX7_blownInto 52 = .ok (.iload_n 2, 1) := by decide +kernel
theorem dX7_blownInto_53 : decode cX7_blownInto 53 = .ok (.ireturn, 1) := by decide +kernel
theorem dX7_hearth_0 : decode cX7_hearth 0 = .ok (.aload_n 0, 1) := by decide +kernel
theorem dX7_hearth_1 : decode cX7_hearth 1 = .ok (.iload_n 1, 1) := by decide +kernel
theorem dX7_hearth_2 : decode cX7_hearth 2 = .ok (.invokevirtual 201, 3) := by decide +kernel
theorem dX7_hearth_5 : decode cX7_hearth 5 = .ok (.ifCond .ne 6, 3) := by decide +kernel
theorem dX7_hearth_8 : decode cX7_hearth 8 = .ok (.ldc 73, 2) := by decide +kernel
theorem dX7_hearth_10 : decode cX7_hearth 10 = .ok (.ireturn, 1) := by decide +kernel
theorem dX7_hearth_11 : decode cX7_hearth 11 = .ok (.iload_n 2, 1) := by decide +kernel
theorem dX7_hearth_12 : decode cX7_hearth 12 = .ok (.tableswitch 70 0 3 #[32, 41, 58, 64], 32) := by decide +kernel
theorem dX7_hearth_44 : decode cX7_hearth 44 = .ok (.aload_n 0, 1) := by decide +kernel
theorem dX7_hearth_45 : decode cX7_hearth 45 = .ok (.getfield 25, 3) := by decide +kernel
theorem dX7_hearth_48 : decode cX7_hearth 48 = .ok (.iconst 5, 1) := by decide +kernel
theorem dX7_hearth_49 : decode cX7_hearth 49 = .ok (.iload_n 1, 1) := by decide +kernel
theorem dX7_hearth_50 : decode cX7_hearth 50 = .ok (.iadd, 1) := by decide +kernel
theorem dX7_hearth_51 : decode cX7_hearth 51 = .ok (.iaload, 1) := by decide +kernel
theorem dX7_hearth_52 : decode cX7_hearth 52 = .ok (.ireturn, 1) := by decide +kernel
theorem dX7_hearth_53 : decode cX7_hearth 53 = .ok (.aload_n 0, 1) := by decide +kernel
theorem dX7_hearth_54 : decode cX7_hearth 54 = .ok (.getfield 25, 3) := by decide +kernel
theorem dX7_hearth_57 : decode cX7_hearth 57 = .ok (.iconst 5, 1) := by decide +kernel
theorem dX7_hearth_58 : decode cX7_hearth 58 = .ok (.iload_n 1, 1) := by decide +kernel
theorem dX7_hearth_59 : decode cX7_hearth 59 = .ok (.iadd, 1) := by decide +kernel
theorem dX7_hearth_60 : decode cX7_hearth 60 = .ok (.iaload, 1) := by decide +kernel
theorem dX7_hearth_61 : decode cX7_hearth 61 = .ok (.ifCond .le 7, 3) := by decide +kernel
theorem dX7_hearth_64 : decode cX7_hearth 64 = .ok (.iconst 1, 1) := by decide +kernel
theorem dX7_hearth_65 : decode cX7_hearth 65 = .ok (.goto 4, 3) := by decide +kernel
theorem dX7_hearth_68 : decode cX7_hearth 68 = .ok (.iconst 0, 1) := by decide +kernel
theorem dX7_hearth_69 : decode cX7_hearth 69 = .ok (.ireturn, 1) := by decide +kernel
theorem dX7_hearth_70 : decode cX7_hearth 70 = .ok (.aload_n 0, 1) := by decide +kernel
theorem dX7_hearth_71 : decode cX7_hearth 71 = .ok (.iload_n 1, 1) := by decide +kernel
theorem dX7_hearth_72 : decode cX7_hearth 72 = .ok (.invokevirtual 204, 3) := by decide +kernel
theorem dX7_hearth_75 : decode cX7_hearth 75 = .ok (.ireturn, 1) := by decide +kernel
theorem dX7_hearth_76 : decode cX7_hearth 76 = .ok (.aload_n 0, 1) := by decide +kernel
theorem dX7_hearth_77 : decode cX7_hearth 77 = .ok (.iload_n 1, 1) := by decide +kernel
theorem dX7_hearth_78 : decode cX7_hearth 78 = .ok (.invokevirtual 207, 3) := by decide +kernel
theorem dX7_hearth_81 : decode cX7_hearth 81 = .ok (.ireturn, 1) := by decide +kernel
theorem dX7_hearth_82 : decode cX7_hearth 82 = .ok (.ldc 73, 2) := by decide +kernel
theorem dX7_hearth_84 : decode cX7_hearth 84 = .ok (.ireturn, 1) := by decide +kernel
theorem dX7_goesOn_0 : decode cX7_goesOn 0 = .ok (.iconst 0, 1) := by decide +kernel
theorem dX7_goesOn_1 : decode cX7_goesOn 1 = .ok (.istore_n 2, 1) := by decide +kernel
theorem dX7_goesOn_2 : decode cX7_goesOn 2 = .ok (.iload_n 2, 1) := by decide +kernel
theorem dX7_goesOn_3 : decode cX7_goesOn 3 = .ok (.iload_n 1, 1) := by decide +kernel
theorem dX7_goesOn_4 : decode cX7_goesOn 4 = .ok (.if_icmp .ge 17, 3) := by decide +kernel
theorem dX7_goesOn_7 : decode cX7_goesOn 7 = .ok (.aload_n 0, 1) := by decide +kernel
theorem dX7_goesOn_8 : decode cX7_goesOn 8 = .ok (.aload_n 0, 1) := by decide +kernel
theorem dX7_goesOn_9 : decode cX7_goesOn 9 = .ok (.getfield 31, 3) := by decide +kernel
theorem dX7_goesOn_12 : decode cX7_goesOn 12 = .ok (.invokevirtual 187, 3) := by decide +kernel
theorem dX7_goesOn_15 : decode cX7_goesOn 15 = .ok (.iinc 2 1, 3) := by decide +kernel
theorem dX7_goesOn_18 : decode cX7_goesOn 18 = .ok (.goto (-16), 3) := by decide +kernel
theorem dX7_goesOn_21 : decode cX7_goesOn 21 = .ok (.return_, 1) := by decide +kernel
theorem dX7_breath_0 : decode cX7_breath 0 = .ok (.aload_n 0, 1) := by decide +kernel
theorem dX7_breath_1 : decode cX7_breath 1 = .ok (.iload_n 1, 1) := by decide +kernel
theorem dX7_breath_2 : decode cX7_breath 2 = .ok (.invokevirtual 195, 3) := by decide +kernel
theorem dX7_breath_5 : decode cX7_breath 5 = .ok (.ifCond .eq 13, 3) := by decide +kernel
theorem dX7_breath_8 : decode cX7_breath 8 = .ok (.iload_n 2, 1) := by decide +kernel
theorem dX7_breath_9 : decode cX7_breath 9 = .ok (.iconst 0, 1) := by decide +kernel
theorem dX7_breath_10 : decode cX7_breath 10 = .ok (.bipush 60, 2) := by decide +kernel
theorem dX7_breath_12 : decode cX7_breath 12 = .ok (.invokestatic 65, 3) := by decide +kernel
theorem dX7_breath_15 : decode cX7_breath 15 = .ok (.ifCond .ne 6, 3) := by decide +kernel
theorem dX7_breath_18 : decode cX7_breath 18 = .ok (.ldc 73, 2) := by decide +kernel
theorem dX7_breath_20 : decode cX7_breath 20 = .ok (.ireturn, 1) := by decide +kernel
theorem dX7_breath_21 : decode cX7_breath 21 = .ok (.aload_n 0, 1) := by decide +kernel
theorem dX7_breath_22 : decode cX7_breath 22 = .ok (.getfield 25, 3) := by decide +kernel
theorem dX7_breath_25 : decode cX7_breath 25 = .ok (.iconst 0, 1) := by decide +kernel
theorem dX7_breath_26 : decode cX7_breath 26 = .ok (.aload_n 0, 1) := by decide +kernel
theorem dX7_breath_27 : decode cX7_breath 27 = .ok (.getfield 31, 3) := by decide +kernel
theorem dX7_breath_30 : decode cX7_breath 30 = .ok (.iconst 0, 1) := by decide +kernel
theorem dX7_breath_31 : decode cX7_breath 31 = .ok (.invokestatic 147, 3) := by decide +kernel
theorem dX7_breath_34 : decode cX7_breath 34 = .ok (.aload_n 0, 1) := by decide +kernel
theorem dX7_breath_35 : decode cX7_breath 35 = .ok (.iload_n 2, 1) := by decide +kernel
theorem dX7_breath_36 : decode cX7_breath 36 = .ok (.invokevirtual 210, 3) := by decide +kernel
theorem dX7_breath_39 : decode cX7_breath 39 = .ok (.aload_n 0, 1) := by decide +kernel
theorem dX7_breath_40 : decode cX7_breath 40 = .ok (.getfield 31, 3) := by decide +kernel
theorem dX7_breath_43 : decode cX7_breath 43 = .ok (.bipush 13, 2) := by decide +kernel
theorem dX7_breath_45 : decode cX7_breath 45 = .ok (.iconst 4, 1) := by decide +kernel
theorem dX7_breath_46 : decode cX7_breath 46 = .ok (.iload_n 1, 1) := by decide +kernel
theorem dX7_breath_47 : decode cX7_breath 47 = .ok (.imul, 1) := by decide +kernel
theorem dX7_breath_48 : decode cX7_breath 48 = .ok (.iadd, 1) := by decide +kernel
theorem dX7_breath_49 : decode cX7_breath 49 = .ok (.iconst 1, 1) := by decide +kernel
theorem dX7_breath_50 : decode cX7_breath 50 = .ok (.iadd, 1) := by decide +kernel
theorem dX7_breath_51 : decode cX7_breath 51 = .ok (.iaload, 1) := by decide +kernel
theorem dX7_breath_52 : decode cX7_breath 52 = .ok (.ireturn, 1) := by decide +kernel
theorem dX7_fire_0 : decode cX7_fire 0 = .ok (.aload_n 0, 1) := by decide +kernel
theorem dX7_fire_1 : decode cX7_fire 1 = .ok (.iload_n 1, 1) := by decide +kernel
theorem dX7_fire_2 : decode cX7_fire 2 = .ok (.invokevirtual 201, 3) := by decide +kernel
theorem dX7_fire_5 : decode cX7_fire 5 = .ok (.ifCond .eq 13, 3) := by decide +kernel
theorem dX7_fire_8 : decode cX7_fire 8 = .ok (.iload_n 2, 1) := by decide +kernel
theorem dX7_fire_9 : decode cX7_fire 9 = .ok (.iconst 0, 1) := by decide +kernel
theorem dX7_fire_10 : decode cX7_fire 10 = .ok (.bipush 60, 2) := by decide +kernel
theorem dX7_fire_12 : decode cX7_fire 12 = .ok (.invokestatic 65, 3) := by decide +kernel
theorem dX7_fire_15 : decode cX7_fire 15 = .ok (.ifCond .ne 6, 3) := by decide +kernel
theorem dX7_fire_18 : decode cX7_fire 18 = .ok (.ldc 73, 2) := by decide +kernel
theorem dX7_fire_20 : decode cX7_fire 20 = .ok (.ireturn, 1) := by decide +kernel
theorem dX7_fire_21 : decode cX7_fire 21 = .ok (.aload_n 0, 1) := by decide +kernel
theorem dX7_fire_22 : decode cX7_fire 22 = .ok (.getfield 25, 3) := by decide +kernel
theorem dX7_fire_25 : decode cX7_fire 25 = .ok (.iconst 0, 1) := by decide +kernel
theorem dX7_fire_26 : decode cX7_fire 26 = .ok (.aload_n 0, 1) := by decide +kernel
theorem dX7_fire_27 : decode cX7_fire 27 = .ok (.getfield 31, 3) := by decide +kernel
theorem dX7_fire_30 : decode cX7_fire 30 = .ok (.iconst 0, 1) := by decide +kernel
theorem dX7_fire_31 : decode cX7_fire 31 = .ok (.invokestatic 147, 3) := by decide +kernel
theorem dX7_fire_34 : decode cX7_fire 34 = .ok (.aload_n 0, 1) := by decide +kernel
theorem dX7_fire_35 : decode cX7_fire 35 = .ok (.iload_n 2, 1) := by decide +kernel
theorem dX7_fire_36 : decode cX7_fire 36 = .ok (.invokevirtual 210, 3) := by decide +kernel
theorem dX7_fire_39 : decode cX7_fire 39 = .ok (.aload_n 0, 1) := by decide +kernel
theorem dX7_fire_40 : decode cX7_fire 40 = .ok (.getfield 31, 3) := by decide +kernel
theorem dX7_fire_43 : decode cX7_fire 43 = .ok (.iconst 5, 1) := by decide +kernel
theorem dX7_fire_44 : decode cX7_fire 44 = .ok (.iload_n 1, 1) := by decide +kernel
theorem dX7_fire_45 : decode cX7_fire 45 = .ok (.iadd, 1) := by decide +kernel
theorem dX7_fire_46 : decode cX7_fire 46 = .ok (.iaload, 1) := by decide +kernel
theorem dX7_fire_47 : decode cX7_fire 47 = .ok (.ireturn, 1) := by decide +kernel
theorem dX7_lit_0 : decode cX7_lit 0 = .ok (.aload_n 0, 1) := by decide +kernel
theorem dX7_lit_1 : decode cX7_lit 1 = .ok (.invokevirtual 180, 3) := by decide +kernel
theorem dX7_lit_4 : decode cX7_lit 4 = .ok (.ifCond .ne 6, 3) := by decide +kernel
theorem dX7_lit_7 : decode cX7_lit 7 = .ok (.ldc 183, 2) := by decide +kernel
theorem dX7_lit_9 : decode cX7_lit 9 = .ok (.ireturn, 1) := by decide +kernel
theorem dX7_lit_10 : decode cX7_lit 10 = .ok (.iload_n 1, 1) := by decide +kernel
theorem dX7_lit_11 : decode cX7_lit 11 = .ok (.iconst 0, 1) := by decide +kernel
theorem dX7_lit_12 : decode cX7_lit 12 = .ok (.bipush 60, 2) := by decide +kernel
theorem dX7_lit_14 : decode cX7_lit 14 = .ok (.invokestatic 65, 3) := by decide +kernel
theorem dX7_lit_17 : decode cX7_lit 17 = .ok (.ifCond .ne 6, 3) := by decide +kernel
theorem dX7_lit_20 : decode cX7_lit 20 = .ok (.ldc 73, 2) := by decide +kernel
theorem dX7_lit_22 : decode cX7_lit 22 = .ok (.ireturn, 1) := by decide +kernel
theorem dX7_lit_23 : decode cX7_lit 23 = .ok (.aload_n 0, 1) := by decide +kernel
theorem dX7_lit_24 : decode cX7_lit 24 = .ok (.getfield 25, 3) := by decide +kernel
theorem dX7_lit_27 : decode cX7_lit 27 = .ok (.iconst 0, 1) := by decide +kernel
theorem dX7_lit_28 : decode cX7_lit 28 = .ok (.aload_n 0, 1) := by decide +kernel
theorem dX7_lit_29 : decode cX7_lit 29 = .ok (.getfield 31, 3) := by decide +kernel
theorem dX7_lit_32 : decode cX7_lit 32 = .ok (.iconst 0, 1) := by decide +kernel
theorem dX7_lit_33 : decode cX7_lit 33 = .ok (.invokestatic 147, 3) := by decide +kernel
theorem dX7_lit_36 : decode cX7_lit 36 = .ok (.aload_n 0, 1) := by decide +kernel
theorem dX7_lit_37 : decode cX7_lit 37 = .ok (.iload_n 1, 1) := by decide +kernel
theorem dX7_lit_38 : decode cX7_lit 38 = .ok (.invokevirtual 210, 3) := by decide +kernel
theorem dX7_lit_41 : decode cX7_lit 41 = .ok (.aload_n 0, 1) := by decide +kernel
theorem dX7_lit_42 : decode cX7_lit 42 = .ok (.getfield 31, 3) := by decide +kernel
theorem dX7_lit_45 : decode cX7_lit 45 = .ok (.invokestatic 191, 3) := by decide +kernel
theorem dX7_lit_48 : decode cX7_lit 48 = .ok (.ireturn, 1) := by decide +kernel
theorem dX7_empty_0 : decode cX7_empty 0 = .ok (.aload_n 0, 1) := by decide +kernel
theorem dX7_empty_1 : decode cX7_empty 1 = .ok (.invokevirtual 180, 3) := by decide +kernel
theorem dX7_empty_4 : decode cX7_empty 4 = .ok (.ifCond .ne 6, 3) := by decide +kernel
theorem dX7_empty_7 : decode cX7_empty 7 = .ok (.ldc 183, 2) := by decide +kernel
theorem dX7_empty_9 : decode cX7_empty 9 = .ok (.ireturn, 1) := by decide +kernel
theorem dX7_empty_10 : decode cX7_empty 10 = .ok (.iload_n 1, 1) := by decide +kernel
theorem dX7_empty_11 : decode cX7_empty 11 = .ok (.iconst 0, 1) := by decide +kernel
theorem dX7_empty_12 : decode cX7_empty 12 = .ok (.iconst 1, 1) := by decide +kernel
theorem dX7_empty_13 : decode cX7_empty 13 = .ok (.invokestatic 65, 3) := by decide +kernel
theorem dX7_empty_16 : decode cX7_empty 16 = .ok (.ifCond .ne 6, 3) := by decide +kernel
theorem dX7_empty_19 : decode cX7_empty 19 = .ok (.ldc 73, 2) := by decide +kernel
theorem dX7_empty_21 : decode cX7_empty 21 = .ok (.ireturn, 1) := by decide +kernel
theorem dX7_empty_22 : decode cX7_empty 22 = .ok (.aload_n 0, 1) := by decide +kernel
theorem dX7_empty_23 : decode cX7_empty 23 = .ok (.getfield 25, 3) := by decide +kernel
theorem dX7_empty_26 : decode cX7_empty 26 = .ok (.iconst 0, 1) := by decide +kernel
theorem dX7_empty_27 : decode cX7_empty 27 = .ok (.aload_n 0, 1) := by decide +kernel
theorem dX7_empty_28 : decode cX7_empty 28 = .ok (.getfield 31, 3) := by decide +kernel
theorem dX7_empty_31 : decode cX7_empty 31 = .ok (.iconst 0, 1) := by decide +kernel
theorem dX7_empty_32 : decode cX7_empty 32 = .ok (.invokestatic 147, 3) := by decide +kernel
theorem dX7_empty_35 : decode cX7_empty 35 = .ok (.iconst 0, 1) := by decide +kernel
theorem dX7_empty_36 : decode cX7_empty 36 = .ok (.istore_n 2, 1) := by decide +kernel
theorem dX7_empty_37 : decode cX7_empty 37 = .ok (.iload_n 2, 1) := by decide +kernel
theorem dX7_empty_38 : decode cX7_empty 38 = .ok (.bipush 61, 2) := by decide +kernel
theorem dX7_empty_40 : decode cX7_empty 40 = .ok (.if_icmp .ge 61, 3) := by decide +kernel
theorem dX7_empty_43 : decode cX7_empty 43 = .ok (.iconst 0, 1) := by decide +kernel
theorem dX7_empty_44 : decode cX7_empty 44 = .ok (.istore_n 3, 1) := by decide +kernel
theorem dX7_empty_45 : decode cX7_empty 45 = .ok (.iload_n 3, 1) := by decide +kernel
theorem dX7_empty_46 : decode cX7_empty 46 = .ok (.aload_n 0, 1) := by decide +kernel
theorem dX7_empty_47 : decode cX7_empty 47 = .ok (.getfield 25, 3) := by decide +kernel
theorem dX7_empty_50 : decode cX7_empty 50 = .ok (.iconst 3, 1) := by decide +kernel
theorem dX7_empty_51 : decode cX7_empty 51 = .ok (.iaload, 1) := by decide +kernel
theorem dX7_empty_52 : decode cX7_empty 52 = .ok (.if_icmp .ge 35, 3) := by decide +kernel
theorem dX7_empty_55 : decode cX7_empty 55 = .ok (.aload_n 0, 1) := by decide +kernel
theorem dX7_empty_56 : decode cX7_empty 56 = .ok (.getfield 31, 3) := by decide +kernel
theorem dX7_empty_59 : decode cX7_empty 59 = .ok (.bipush 13, 2) := by decide +kernel
theorem dX7_empty_61 : decode cX7_empty 61 = .ok (.iconst 4, 1) := by decide +kernel
theorem dX7_empty_62 : decode cX7_empty 62 = .ok (.iload_n 3, 1) := by decide +kernel
theorem dX7_empty_63 : decode cX7_empty 63 = .ok (.imul, 1) := by decide +kernel
theorem dX7_empty_64 : decode cX7_empty 64 = .ok (.iadd, 1) := by decide +kernel
theorem dX7_empty_65 : decode cX7_empty 65 = .ok (.iconst 1, 1) := by decide +kernel
theorem dX7_empty_66 : decode cX7_empty 66 = .ok (.iadd, 1) := by decide +kernel
theorem dX7_empty_67 : decode cX7_empty 67 = .ok (.iaload, 1) := by decide +kernel
theorem dX7_empty_68 : decode cX7_empty 68 = .ok (.ifCond .ne 13, 3) := by decide +kernel
theorem dX7_empty_71 : decode cX7_empty 71 = .ok (.iload_n 1, 1) := by decide +kernel
theorem dX7_empty_72 : decode cX7_empty 72 = .ok (.ifCond .ne 7, 3) := by decide +kernel
theorem dX7_empty_75 : decode cX7_empty 75 = .ok (.iload_n 3, 1) := by decide +kernel
theorem dX7_empty_76 : decode cX7_empty 76 = .ok (.goto 4, 3) := by decide +kernel
theorem dX7_empty_79 : decode cX7_empty 79 = .ok (.iload_n 2, 1) := by decide +kernel
theorem dX7_empty_80 : decode cX7_empty 80 = .ok (.ireturn, 1) := by decide +kernel
theorem dX7_empty_81 : decode cX7_empty 81 = .ok (.iinc 3 1, 3) := by decide +kernel
theorem dX7_empty_84 : decode cX7_empty 84 = .ok (.goto (-39), 3) := by decide +kernel
theorem dX7_empty_87 : decode cX7_empty 87 = .ok (.aload_n 0, 1) := by decide +kernel
theorem dX7_empty_88 : decode cX7_empty 88 = .ok (.aload_n 0, 1) := by decide +kernel
theorem dX7_empty_89 : decode cX7_empty 89 = .ok (.getfield 31, 3) := by decide +kernel
theorem dX7_empty_92 : decode cX7_empty 92 = .ok (.invokevirtual 187, 3) := by decide +kernel
theorem dX7_empty_95 : decode cX7_empty 95 = .ok (.iinc 2 1, 3) := by decide +kernel
theorem dX7_empty_98 : decode cX7_empty 98 = .ok (.goto (-61), 3) := by decide +kernel
theorem dX7_empty_101 : decode cX7_empty 101 = .ok (.ldc 59, 2) := by decide +kernel
theorem dX7_empty_103 : decode cX7_empty 103 = .ok (.ireturn, 1) := by decide +kernel
theorem dX7_cold_0 : decode cX7_cold 0 = .ok (.aload_n 0, 1) := by decide +kernel
theorem dX7_cold_1 : decode cX7_cold 1 = .ok (.iload_n 1, 1) := by decide +kernel
theorem dX7_cold_2 : decode cX7_cold 2 = .ok (.invokevirtual 201, 3) := by decide +kernel
theorem dX7_cold_5 : decode cX7_cold 5 = .ok (.ifCond .ne 6, 3) := by decide +kernel
theorem dX7_cold_8 : decode cX7_cold 8 = .ok (.ldc 73, 2) := by decide +kernel
theorem dX7_cold_10 : decode cX7_cold 10 = .ok (.ireturn, 1) := by decide +kernel
theorem dX7_cold_11 : decode cX7_cold 11 = .ok (.aload_n 0, 1) := by decide +kernel
theorem dX7_cold_12 : decode cX7_cold 12 = .ok (.getfield 25, 3) := by decide +kernel
theorem dX7_cold_15 : decode cX7_cold 15 = .ok (.iconst 0, 1) := by decide +kernel
theorem dX7_cold_16 : decode cX7_cold 16 = .ok (.aload_n 0, 1) := by decide +kernel
theorem dX7_cold_17 : decode cX7_cold 17 = .ok (.getfield 31, 3) := by decide +kernel
theorem dX7_cold_20 : decode cX7_cold 20 = .ok (.iconst 0, 1) := by decide +kernel
theorem dX7_cold_21 : decode cX7_cold 21 = .ok (.invokestatic 147, 3) := by decide +kernel
theorem dX7_cold_24 : decode cX7_cold 24 = .ok (.iconst 0, 1) := by decide +kernel
theorem dX7_cold_25 : decode cX7_cold 25 = .ok (.istore_n 2, 1) := by decide +kernel
theorem dX7_cold_26 : decode cX7_cold 26 = .ok (.iload_n 2, 1) := by decide +kernel
theorem dX7_cold_27 : decode cX7_cold 27 = .ok (.bipush 61, 2) := by decide +kernel
theorem dX7_cold_29 : decode cX7_cold 29 = .ok (.if_icmp .ge 30, 3) := by decide +kernel
theorem dX7_cold_32 : decode cX7_cold 32 = .ok (.aload_n 0, 1) := by decide +kernel
theorem dX7_cold_33 : decode cX7_cold 33 = .ok (.getfield 31, 3) := by decide +kernel
theorem dX7_cold_36 : decode cX7_cold 36 = .ok (.iconst 5, 1) := by decide +kernel
theorem dX7_cold_37 : decode cX7_cold 37 = .ok (.iload_n 1, 1) := by decide +kernel
theorem dX7_cold_38 : decode cX7_cold 38 = .ok (.iadd, 1) := by decide +kernel
theorem dX7_cold_39 : decode cX7_cold 39 = .ok (.iaload, 1) := by decide +kernel
theorem dX7_cold_40 : decode cX7_cold 40 = .ok (.ifCond .ne 5, 3) := by decide +kernel
theorem dX7_cold_43 : decode cX7_cold 43 = .ok (.iload_n 2, 1) := by decide +kernel
theorem dX7_cold_44 : decode cX7_cold 44 = .ok (.ireturn, 1) := by decide +kernel
theorem dX7_cold_45 : decode cX7_cold 45 = .ok (.aload_n 0, 1) := by decide +kernel
theorem dX7_cold_46 : decode cX7_cold 46 = .ok (.aload_n 0, 1) := by decide +kernel
theorem dX7_cold_47 : decode cX7_cold 47 = .ok (.getfield 31, 3) := by decide +kernel
theorem dX7_cold_50 : decode cX7_cold 50 = .ok (.invokevirtual 187, 3) := by decide +kernel
theorem dX7_cold_53 : decode cX7_cold 53 = .ok (.iinc 2 1, 3) := by decide +kernel
theorem dX7_cold_56 : decode cX7_cold 56 = .ok (.goto (-30), 3) := by decide +kernel
theorem dX7_cold_59 : decode cX7_cold 59 = .ok (.ldc 59, 2) := by decide +kernel
theorem dX7_cold_61 : decode cX7_cold 61 = .ok (.ireturn, 1) := by decide +kernel
theorem dX7_isNear_0 : decode cX7_isNear 0 = .ok (.iload_n 0, 1) := by decide +kernel
theorem dX7_isNear_1 : decode cX7_isNear 1 = .ok (.iconst 1, 1) := by decide +kernel
theorem dX7_isNear_2 : decode cX7_isNear 2 = .ok (.bipush 30, 2) := by decide +kernel
theorem dX7_isNear_4 : decode cX7_isNear 4 = .ok (.invokestatic 65, 3) := by decide +kernel
theorem dX7_isNear_7 : decode cX7_isNear 7 = .ok (.ireturn, 1) := by decide +kernel
theorem dX7_best_0 : decode cX7_best 0 = .ok (.aload_n 0, 1) := by decide +kernel
theorem dX7_best_1 : decode cX7_best 1 = .ok (.iload_n 1, 1) := by decide +kernel
theorem dX7_best_2 : decode cX7_best 2 = .ok (.invokevirtual 195, 3) := by decide +kernel
theorem dX7_best_5 : decode cX7_best 5 = .ok (.ifCond .eq 19, 3) := by decide +kernel
theorem dX7_best_8 : decode cX7_best 8 = .ok (.iload_n 2, 1) := by decide +kernel
theorem dX7_best_9 : decode cX7_best 9 = .ok (.invokestatic 214, 3) := by decide +kernel
theorem dX7_best_12 : decode cX7_best 12 = .ok (.ifCond .eq 12, 3) := by decide +kernel
theorem dX7_best_15 : decode cX7_best 15 = .ok (.iload_n 3, 1) := by decide +kernel
theorem dX7_best_16 : decode cX7_best 16 = .ok (.iconst 0, 1) := by decide +kernel
theorem dX7_best_17 : decode cX7_best 17 = .ok (.iconst 1, 1) := by decide +kernel
theorem dX7_best_18 : decode cX7_best 18 = .ok (.invokestatic 65, 3) := by decide +kernel
theorem dX7_best_21 : decode cX7_best 21 = .ok (.ifCond .ne 6, 3) := by decide +kernel
theorem dX7_best_24 : decode cX7_best 24 = .ok (.ldc 73, 2) := by decide +kernel
theorem dX7_best_26 : decode cX7_best 26 = .ok (.ireturn, 1) := by decide +kernel
theorem dX7_best_27 : decode cX7_best 27 = .ok (.bipush 13, 2) := by decide +kernel
theorem dX7_best_29 : decode cX7_best 29 = .ok (.iconst 4, 1) := by decide +kernel
theorem dX7_best_30 : decode cX7_best 30 = .ok (.iload_n 1, 1) := by decide +kernel
theorem dX7_best_31 : decode cX7_best 31 = .ok (.imul, 1) := by decide +kernel
theorem dX7_best_32 : decode cX7_best 32 = .ok (.iadd, 1) := by decide +kernel
theorem dX7_best_33 : decode cX7_best 33 = .ok (.istore 4, 2) := by decide +kernel
theorem dX7_best_35 : decode cX7_best 35 = .ok (.iconst 0, 1) := by decide +kernel
theorem dX7_best_36 : decode cX7_best 36 = .ok (.istore 5, 2) := by decide +kernel
theorem dX7_best_38 : decode cX7_best 38 = .ok (.iconst (-1), 1) := by decide +kernel
theorem dX7_best_39 : decode cX7_best 39 = .ok (.istore 6, 2) := by decide +kernel
theorem dX7_best_41 : decode cX7_best 41 = .ok (.iconst 0, 1) := by decide +kernel
theorem dX7_best_42 : decode cX7_best 42 = .ok (.istore 7, 2) := by decide +kernel
theorem dX7_best_44 : decode cX7_best 44 = .ok (.iload 7, 2) := by decide +kernel
theorem dX7_best_46 : decode cX7_best 46 = .ok (.iload_n 2, 1) := by decide +kernel
theorem dX7_best_47 : decode cX7_best 47 = .ok (.if_icmp .ge 106, 3) := by decide +kernel
theorem dX7_best_50 : decode cX7_best 50 = .ok (.aload_n 0, 1) := by decide +kernel
theorem dX7_best_51 : decode cX7_best 51 = .ok (.getfield 25, 3) := by decide +kernel
theorem dX7_best_54 : decode cX7_best 54 = .ok (.iconst 0, 1) := by decide +kernel
theorem dX7_best_55 : decode cX7_best 55 = .ok (.aload_n 0, 1) := by decide +kernel
theorem dX7_best_56 : decode cX7_best 56 = .ok (.getfield 31, 3) := by decide +kernel
theorem dX7_best_59 : decode cX7_best 59 = .ok (.iconst 0, 1) := by decide +kernel
theorem dX7_best_60 : decode cX7_best 60 = .ok (.invokestatic 147, 3) := by decide +kernel
theorem dX7_best_63 : decode cX7_best 63 = .ok (.aload_n 0, 1) := by decide +kernel
theorem dX7_best_64 : decode cX7_best 64 = .ok (.getfield 31, 3) := by decide +kernel
theorem dX7_best_67 : decode cX7_best 67 = .ok (.iload 4, 2) := by decide +kernel
theorem dX7_best_69 : decode cX7_best 69 = .ok (.iconst 3, 1) := by decide +kernel
theorem dX7_best_70 : decode cX7_best 70 = .ok (.iadd, 1) := by decide +kernel
theorem dX7_best_71 : decode cX7_best 71 = .ok (.iconst 1, 1) := by decide +kernel
theorem dX7_best_72 : decode cX7_best 72 = .ok (.iastore, 1) := by decide +kernel
theorem dX7_best_73 : decode cX7_best 73 = .ok (.aload_n 0, 1) := by decide +kernel
theorem dX7_best_74 : decode cX7_best 74 = .ok (.iload 7, 2) := by decide +kernel
theorem dX7_best_76 : decode cX7_best 76 = .ok (.invokevirtual 210, 3) := by decide +kernel
theorem dX7_best_79 : decode cX7_best 79 = .ok (.aload_n 0, 1) := by decide +kernel
theorem dX7_best_80 : decode cX7_best 80 = .ok (.getfield 31, 3) := by decide +kernel
theorem dX7_best_83 : decode cX7_best 83 = .ok (.iload 4, 2) := by decide +kernel
theorem dX7_best_85 : decode cX7_best 85 = .ok (.iconst 3, 1) := by decide +kernel
theorem dX7_best_86 : decode cX7_best 86 = .ok (.iadd, 1) := by decide +kernel
theorem dX7_best_87 : decode cX7_best 87 = .ok (.iconst 0, 1) := by decide +kernel
theorem dX7_best_88 : decode cX7_best 88 = .ok (.iastore, 1) := by decide +kernel
theorem dX7_best_89 : decode cX7_best 89 = .ok (.aload_n 0, 1) := by decide +kernel
theorem dX7_best_90 : decode cX7_best 90 = .ok (.iload_n 2, 1) := by decide +kernel
theorem dX7_best_91 : decode cX7_best 91 = .ok (.iload 7, 2) := by decide +kernel
theorem dX7_best_93 : decode cX7_best 93 = .ok (.isub, 1) := by decide +kernel
theorem dX7_best_94 : decode cX7_best 94 = .ok (.invokevirtual 210, 3) := by decide +kernel
theorem dX7_best_97 : decode cX7_best 97 = .ok (.aload_n 0, 1) := by decide +kernel
theorem dX7_best_98 : decode cX7_best 98 = .ok (.getfield 31, 3) := by decide +kernel
theorem dX7_best_101 : decode cX7_best 101 = .ok (.iconst 5, 1) := by decide +kernel
theorem dX7_best_102 : decode cX7_best 102 = .ok (.aload_n 0, 1) := by decide +kernel
theorem dX7_best_103 : decode cX7_best 103 = .ok (.getfield 25, 3) := by decide +kernel
theorem dX7_best_106 : decode cX7_best 106 = .ok (.iload 4, 2) := by decide +kernel
theorem dX7_best_108 : decode cX7_best 108 = .ok (.iconst 2, 1) := by decide +kernel
theorem dX7_best_109 : decode cX7_best 109 = .ok (.iadd, 1) := by decide +kernel
theorem dX7_best_110 : decode cX7_best 110 = .ok (.iaload, 1) := by decide +kernel
theorem dX7_best_111 : decode cX7_best 111 = .ok (.iadd, 1) := by decide +kernel
theorem dX7_best_112 : decode cX7_best 112 = .ok (.iaload, 1) := by decide +kernel
theorem dX7_best_113 : decode cX7_best 113 = .ok (.istore 8, 2) := by decide +kernel
theorem dX7_best_115 : decode cX7_best 115 = .ok (.iload 8, 2) := by decide +kernel
theorem dX7_best_117 : decode cX7_best 117 = .ok (.iload 6, 2) := by decide +kernel
theorem dX7_best_119 : decode cX7_best 119 = .ok (.if_icmp .le 8, 3) := by decide +kernel
theorem dX7_best_122 : decode cX7_best 122 = .ok (.iload 7, 2) := by decide +kernel
theorem dX7_best_124 : decode cX7_best 124 = .ok (.goto 5, 3) := by decide +kernel
theorem dX7_best_127 : decode cX7_best 127 = .ok (.iload 5, 2) := by decide +kernel
theorem dX7_best_129 : decode cX7_best 129 = .ok (.istore 5, 2) := by decide +kernel
theorem dX7_best_131 : decode cX7_best 131 = .ok (.iload 8, 2) := by decide +kernel
theorem dX7_best_133 : decode cX7_best 133 = .ok (.iload 6, 2) := by decide +kernel
theorem dX7_best_135 : decode cX7_best 135 = .ok (.if_icmp .le 8, 3) := by decide +kernel
theorem dX7_best_138 : decode cX7_best 138 = .ok (.iload 8, 2) := by decide +kernel
theorem dX7_best_140 : decode cX7_best 140 = .ok (.goto 5, 3) := by decide +kernel
theorem dX7_best_143 : decode cX7_best 143 = .ok (.iload 6, 2) := by decide +kernel
theorem dX7_best_145 : decode cX7_best 145 = .ok (.istore 6, 2) := by decide +kernel
theorem dX7_best_147 : decode cX7_best 147 = .ok (.iinc 7 1, 3) := by decide +kernel
theorem dX7_best_150 : decode cX7_best 150 = .ok (.goto (-106), 3) := by decide +kernel
theorem dX7_best_153 : decode cX7_best 153 = .ok (.iload_n 3, 1) := by decide +kernel
theorem dX7_best_154 : decode cX7_best 154 = .ok (.ifCond .ne 8, 3) := by decide +kernel
theorem dX7_best_157 : decode cX7_best 157 = .ok (.iload 5, 2) := by decide +kernel
theorem dX7_best_159 : decode cX7_best 159 = .ok (.goto 5, 3) := by decide +kernel
theorem dX7_best_162 : decode cX7_best 162 = .ok (.iload 6, 2) := by decide +kernel
theorem dX7_best_164 : decode cX7_best 164 = .ok (.ireturn, 1) := by decide +kernel
theorem dX7_draw_0 : decode cX7_draw 0 = .ok (.aload_n 0, 1) := by decide +kernel
theorem dX7_draw_1 : decode cX7_draw 1 = .ok (.invokevirtual 180, 3) := by decide +kernel
theorem dX7_draw_4 : decode cX7_draw 4 = .ok (.ifCond .ne 6, 3) := by decide +kernel
theorem dX7_draw_7 : decode cX7_draw 7 = .ok (.ldc 183, 2) := by decide +kernel
theorem dX7_draw_9 : decode cX7_draw 9 = .ok (.ireturn, 1) := by decide +kernel
theorem dX7_draw_10 : decode cX7_draw 10 = .ok (.iload_n 1, 1) := by decide +kernel
theorem dX7_draw_11 : decode cX7_draw 11 = .ok (.invokestatic 214, 3) := by decide +kernel
theorem dX7_draw_14 : decode cX7_draw 14 = .ok (.ifCond .eq 12, 3) := by decide +kernel
theorem dX7_draw_17 : decode cX7_draw 17 = .ok (.iload_n 2, 1) := by decide +kernel
theorem dX7_draw_18 : decode cX7_draw 18 = .ok (.iconst 0, 1) := by decide +kernel
theorem dX7_draw_19 : decode cX7_draw 19 = .ok (.iconst 1, 1) := by decide +kernel
theorem dX7_draw_20 : decode cX7_draw 20 = .ok (.invokestatic 65, 3) := by decide +kernel
theorem dX7_draw_23 : decode cX7_draw 23 = .ok (.ifCond .ne 6, 3) := by decide +kernel
theorem dX7_draw_26 : decode cX7_draw 26 = .ok (.ldc 73, 2) := by decide +kernel
theorem dX7_draw_28 : decode cX7_draw 28 = .ok (.ireturn, 1) := by decide +kernel
theorem dX7_draw_29 : decode cX7_draw 29 = .ok (.ldc 59, 2) := by decide +kernel
theorem dX7_draw_31 : decode cX7_draw 31 = .ok (.istore_n 3, 1) := by decide +kernel
theorem dX7_draw_32 : decode cX7_draw 32 = .ok (.iconst 0, 1) := by decide +kernel
theorem dX7_draw_33 : decode cX7_draw 33 = .ok (.istore 4, 2) := by decide +kernel
theorem dX7_draw_35 : decode cX7_draw 35 = .ok (.iload 4, 2) := by decide +kernel
theorem dX7_draw_37 : decode cX7_draw 37 = .ok (.iconst 1, 1) := by decide +kernel
theorem dX7_draw_38 : decode cX7_draw 38 = .ok (.aload_n 0, 1) := by decide +kernel
theorem dX7_draw_39 : decode cX7_draw 39 = .ok (.getfield 25, 3) := by decide +kernel
theorem dX7_draw_42 : decode cX7_draw 42 = .ok (.iconst 3, 1) := by decide +kernel
theorem dX7_draw_43 : decode cX7_draw 43 = .ok (.iaload, 1) := by decide +kernel
theorem dX7_draw_44 : decode cX7_draw 44 = .ok (.ishl, 1) := by decide +kernel
theorem dX7_draw_45 : decode cX7_draw 45 = .ok (.if_icmp .ge 145, 3) := by decide +kernel
theorem dX7_draw_48 : decode cX7_draw 48 = .ok (.iload_n 3, 1) := by decide +kernel
theorem dX7_draw_49 : decode cX7_draw 49 = .ok (.ldc 59, 2) := by decide +kernel
theorem dX7_draw_51 : decode cX7_draw 51 = .ok (.if_icmp .eq 15, 3) := by decide +kernel
theorem dX7_draw_54 : decode cX7_draw 54 = .ok (.iload 4, 2) := by decide +kernel
theorem dX7_draw_56 : decode cX7_draw 56 = .ok (.invokestatic 217, 3) := by decide +kernel
theorem dX7_draw_59 : decode cX7_draw 59 = .ok (.iload_n 3, 1) := by decide +kernel
theorem dX7_draw_60 : decode cX7_draw 60 = .ok (.invokestatic 217, 3) := by decide +kernel
theorem dX7_draw_63 : decode cX7_draw 63 = .ok (.if_icmp .ge 7, 3) := by decide +kernel
theorem dX7_draw_66 : decode cX7_draw 66 = .ok (.iconst 1, 1) := by decide +kernel
theorem dX7_draw_67 : decode cX7_draw 67 = .ok (.goto 4, 3) := by decide +kernel
theorem dX7_draw_70 : decode cX7_draw 70 = .ok (.iconst 0, 1) := by decide +kernel
theorem dX7_draw_71 : decode cX7_draw 71 = .ok (.istore 5, 2) := by decide +kernel
theorem dX7_draw_73 : decode cX7_draw 73 = .ok (.iload 5, 2) := by decide +kernel
theorem dX7_draw_75 : decode cX7_draw 75 = .ok (.ifCond .eq 109, 3) := by decide +kernel
theorem dX7_draw_78 : decode cX7_draw 78 = .ok (.aload_n 0, 1) := by decide +kernel
theorem dX7_draw_79 : decode cX7_draw 79 = .ok (.getfield 25, 3) := by decide +kernel
theorem dX7_draw_82 : decode cX7_draw 82 = .ok (.iconst 0, 1) := by decide +kernel
theorem dX7_draw_83 : decode cX7_draw 83 = .ok (.aload_n 0, 1) := by decide +kernel
theorem dX7_draw_84 : decode cX7_draw 84 = .ok (.getfield 31, 3) := by decide +kernel
theorem dX7_draw_87 : decode cX7_draw 87 = .ok (.iconst 0, 1) := by decide +kernel
theorem dX7_draw_88 : decode cX7_draw 88 = .ok (.invokestatic 147, 3) := by decide +kernel
theorem dX7_draw_91 : decode cX7_draw 91 = .ok (.iconst 0, 1) := by decide +kernel
theorem dX7_draw_92 : decode cX7_draw 92 = .ok (.istore 6, 2) := by decide +kernel
theorem dX7_draw_94 : decode cX7_draw 94 = .ok (.iload 6, 2) := by decide +kernel
theorem dX7_draw_96 : decode cX7_draw 96 = .ok (.aload_n 0, 1) := by decide +kernel
theorem dX7_draw_97 : decode cX7_draw 97 = .ok (.getfield 25, 3) := by decide +kernel
theorem dX7_draw_100 : decode cX7_draw 100 = .ok (.iconst 3, 1) := by decide +kernel
theorem dX7_draw_101 : decode cX7_draw 101 = .ok (.iaload, 1) := by decide +kernel
theorem dX7_draw_102 : decode cX7_draw 102 = .ok (.if_icmp .ge 51, 3) := by decide +kernel
theorem dX7_draw_105 : decode cX7_draw 105 = .ok (.aload_n 0, 1) := by decide +kernel
theorem dX7_draw_106 : decode cX7_draw 106 = .ok (.getfield 31, 3) := by decide +kernel
theorem dX7_draw_109 : decode cX7_draw 109 = .ok (.bipush 13, 2) := by decide +kernel
theorem dX7_draw_111 : decode cX7_draw 111 = .ok (.iconst 4, 1) := by decide +kernel
theorem dX7_draw_112 : decode cX7_draw 112 = .ok (.iload 6, 2) := by decide +kernel
theorem dX7_draw_114 : decode cX7_draw 114 = .ok (.imul, 1) := by decide +kernel
theorem dX7_draw_115 : decode cX7_draw 115 = .ok (.iadd, 1) := by decide +kernel
theorem dX7_draw_116 : decode cX7_draw 116 = .ok (.iconst 3, 1) := by decide +kernel
theorem dX7_draw_117 : decode cX7_draw 117 = .ok (.iadd, 1) := by decide +kernel
theorem dX7_draw_118 : decode cX7_draw 118 = .ok (.iload 4, 2) := by decide +kernel
theorem dX7_draw_120 : decode cX7_draw 120 = .ok (.iload 6, 2) := by decide +kernel
theorem dX7_draw_122 : decode cX7_draw 122 = .ok (.invokestatic 154, 3) := by decide +kernel
theorem dX7_draw_125 : decode cX7_draw 125 = .ok (.ifCond .eq 7, 3) := by decide +kernel
theorem dX7_draw_128 : decode cX7_draw 128 = .ok (.iconst 0, 1) := by decide +kernel
theorem dX7_draw_129 : decode cX7_draw 129 = .ok (.goto 17, 3) := by decide +kernel
theorem dX7_draw_132 : decode cX7_draw 132 = .ok (.aload_n 0, 1) := by decide +kernel
theorem dX7_draw_133 : decode cX7_draw 133 = .ok (.getfield 25, 3) := by decide +kernel
theorem dX7_draw_136 : decode cX7_draw 136 = .ok (.bipush 13, 2) := by decide +kernel
theorem dX7_draw_138 : decode cX7_draw 138 = .ok (.iconst 4, 1) := by decide +kernel
theorem dX7_draw_139 : decode cX7_draw 139 = .ok (.iload 6, 2) := by decide +kernel
theorem dX7_draw_141 : decode cX7_draw 141 = .ok (.imul, 1) := by decide +kernel
theorem dX7_draw_142 : decode cX7_draw 142 = .ok (.iadd, 1) := by decide +kernel
theorem dX7_draw_143 : decode cX7_draw 143 = .ok (.iconst 3, 1) := by decide +kernel
theorem dX7_draw_144 : decode cX7_draw 144 = .ok (.iadd, 1) := by decide +kernel
theorem dX7_draw_145 : decode cX7_draw 145 = .ok (.iaload, 1) := by decide +kernel
theorem dX7_draw_146 : decode cX7_draw 146 = .ok (.iastore, 1) := by decide +kernel
theorem dX7_draw_147 : decode cX7_draw 147 = .ok (.iinc 6 1, 3) := by decide +kernel
theorem dX7_draw_150 : decode cX7_draw 150 = .ok (.goto (-56), 3) := by decide +kernel
theorem dX7_draw_153 : decode cX7_draw 153 = .ok (.aload_n 0, 1) := by decide +kernel
theorem dX7_draw_154 : decode cX7_draw 154 = .ok (.iload_n 1, 1) := by decide +kernel
theorem dX7_draw_155 : decode cX7_draw 155 = .ok (.invokevirtual 210, 3) := by decide +kernel
theorem dX7_draw_158 : decode cX7_draw 158 = .ok (.aload_n 0, 1) := by decide +kernel
theorem dX7_draw_159 : decode cX7_draw 159 = .ok (.getfield 31, 3) := by decide +kernel
theorem dX7_draw_162 : decode cX7_draw 162 = .ok (.invokestatic 191, 3) := by decide +kernel
theorem dX7_draw_165 : decode cX7_draw 165 = .ok (.invokestatic 217, 3) := by decide +kernel
theorem dX7_draw_168 : decode cX7_draw 168 = .ok (.aload_n 0, 1) := by decide +kernel
theorem dX7_draw_169 : decode cX7_draw 169 = .ok (.getfield 25, 3) := by decide +kernel
theorem dX7_draw_172 : decode cX7_draw 172 = .ok (.iconst 2, 1) := by decide +kernel
theorem dX7_draw_173 : decode cX7_draw 173 = .ok (.iaload, 1) := by decide +kernel
theorem dX7_draw_174 : decode cX7_draw 174 = .ok (.if_icmp .ne 8, 3) := by decide +kernel
theorem dX7_draw_177 : decode cX7_draw 177 = .ok (.iload 4, 2) := by decide +kernel
theorem dX7_draw_179 : decode cX7_draw 179 = .ok (.goto 4, 3) := by decide +kernel
theorem dX7_draw_182 : decode cX7_draw 182 = .ok (.iload_n 3, 1) := by decide +kernel
theorem dX7_draw_183 : decode cX7_draw 183 = .ok (.istore_n 3, 1) := by decide +kernel
theorem dX7_draw_184 : decode cX7_draw 184 = .ok (.iinc 4 1, 3) := by decide +kernel
theorem dX7_draw_187 : decode cX7_draw 187 = .ok (.goto (-152), 3) := by decide +kernel
theorem dX7_draw_190 : decode cX7_draw 190 = .ok (.iload_n 3, 1) := by decide +kernel
theorem dX7_draw_191 : decode cX7_draw 191 = .ok (.ldc 59, 2) := by decide +kernel
theorem dX7_draw_193 : decode cX7_draw 193 = .ok (.if_icmp .eq 8, 3) := by decide +kernel
theorem dX7_draw_196 : decode cX7_draw 196 = .ok (.iload_n 2, 1) := by decide +kernel
theorem dX7_draw_197 : decode cX7_draw 197 = .ok (.iconst 1, 1) := by decide +kernel
theorem dX7_draw_198 : decode cX7_draw 198 = .ok (.if_icmp .ne 7, 3) := by decide +kernel
theorem dX7_draw_201 : decode cX7_draw 201 = .ok (.iload_n 3, 1) := by decide +kernel
theorem dX7_draw_202 : decode cX7_draw 202 = .ok (.goto 7, 3) := by decide +kernel
theorem dX7_draw_205 : decode cX7_draw 205 = .ok (.iload_n 3, 1) := by decide +kernel
theorem dX7_draw_206 : decode cX7_draw 206 = .ok (.invokestatic 217, 3) := by decide +kernel
theorem dX7_draw_209 : decode cX7_draw 209 = .ok (.ireturn, 1) := by decide +kernel
theorem dX7_waits_0 : decode cX7_waits 0 = .ok (.aload_n 0, 1) := by decide +kernel
theorem dX7_waits_1 : decode cX7_waits 1 = .ok (.getfield 25, 3) := by decide +kernel
theorem dX7_waits_4 : decode cX7_waits 4 = .ok (.iconst 0, 1) := by decide +kernel
theorem dX7_waits_5 : decode cX7_waits 5 = .ok (.aload_n 0, 1) := by decide +kernel
theorem dX7_waits_6 : decode cX7_waits 6 = .ok (.getfield 31, 3) := by decide +kernel
theorem dX7_waits_9 : decode cX7_waits 9 = .ok (.iconst 0, 1) := by decide +kernel
theorem dX7_waits_10 : decode cX7_waits 10 = .ok (.invokestatic 147, 3) := by decide +kernel
theorem dX7_waits_13 : decode cX7_waits 13 = .ok (.aload_n 0, 1) := by decide +kernel
theorem dX7_waits_14 : decode cX7_waits 14 = .ok (.getfield 31, 3) := by decide +kernel
theorem dX7_waits_17 : decode cX7_waits 17 = .ok (.bipush 13, 2) := by decide +kernel
theorem dX7_waits_19 : decode cX7_waits 19 = .ok (.iconst 4, 1) := by decide +kernel
theorem dX7_waits_20 : decode cX7_waits 20 = .ok (.iload_n 1, 1) := by decide +kernel
theorem dX7_waits_21 : decode cX7_waits 21 = .ok (.imul, 1) := by decide +kernel
theorem dX7_waits_22 : decode cX7_waits 22 = .ok (.iadd, 1) := by decide +kernel
theorem dX7_waits_23 : decode cX7_waits 23 = .ok (.iconst 3, 1) := by decide +kernel
theorem dX7_waits_24 : decode cX7_waits 24 = .ok (.iadd, 1) := by decide +kernel
theorem dX7_waits_25 : decode cX7_waits 25 = .ok (.iconst 1, 1) := by decide +kernel
theorem dX7_waits_26 : decode cX7_waits 26 = .ok (.iastore, 1) := by decide +kernel
theorem dX7_waits_27 : decode cX7_waits 27 = .ok (.aload_n 0, 1) := by decide +kernel
theorem dX7_waits_28 : decode cX7_waits 28 = .ok (.getfield 31, 3) := by decide +kernel
theorem dX7_waits_31 : decode cX7_waits 31 = .ok (.bipush 13, 2) := by decide +kernel
theorem dX7_waits_33 : decode cX7_waits 33 = .ok (.iconst 4, 1) := by decide +kernel
theorem dX7_waits_34 : decode cX7_waits 34 = .ok (.iload_n 2, 1) := by decide +kernel
theorem dX7_waits_35 : decode cX7_waits 35 = .ok (.imul, 1) := by decide +kernel
theorem dX7_waits_36 : decode cX7_waits 36 = .ok (.iadd, 1) := by decide +kernel
theorem dX7_waits_37 : decode cX7_waits 37 = .ok (.iconst 3, 1) := by decide +kernel
theorem dX7_waits_38 : decode cX7_waits 38 = .ok (.iadd, 1) := by decide +kernel
theorem dX7_waits_39 : decode cX7_waits 39 = .ok (.iconst 1, 1) := by decide +kernel
theorem dX7_waits_40 : decode cX7_waits 40 = .ok (.iastore, 1) := by decide +kernel
theorem dX7_waits_41 : decode cX7_waits 41 = .ok (.iconst 0, 1) := by decide +kernel
theorem dX7_waits_42 : decode cX7_waits 42 = .ok (.istore 6, 2) := by decide +kernel
theorem dX7_waits_44 : decode cX7_waits 44 = .ok (.iload 6, 2) := by decide +kernel
theorem dX7_waits_46 : decode cX7_waits 46 = .ok (.iload_n 3, 1) := by decide +kernel
theorem dX7_waits_47 : decode cX7_waits 47 = .ok (.if_icmp .ge 67, 3) := by decide +kernel
theorem dX7_waits_50 : decode cX7_waits 50 = .ok (.aload_n 0, 1) := by decide +kernel
theorem dX7_waits_51 : decode cX7_waits 51 = .ok (.getfield 31, 3) := by decide +kernel
theorem dX7_waits_54 : decode cX7_waits 54 = .ok (.bipush 13, 2) := by decide +kernel
theorem dX7_waits_56 : decode cX7_waits 56 = .ok (.iconst 4, 1) := by decide +kernel
theorem dX7_waits_57 : decode cX7_waits 57 = .ok (.iload_n 1, 1) := by decide +kernel
theorem dX7_waits_58 : decode cX7_waits 58 = .ok (.imul, 1) := by decide +kernel
theorem dX7_waits_59 : decode cX7_waits 59 = .ok (.iadd, 1) := by decide +kernel
theorem dX7_waits_60 : decode cX7_waits 60 = .ok (.iconst 3, 1) := by decide +kernel
theorem dX7_waits_61 : decode cX7_waits 61 = .ok (.iadd, 1) := by decide +kernel
theorem dX7_waits_62 : decode cX7_waits 62 = .ok (.iload 6, 2) := by decide +kernel
theorem dX7_waits_64 : decode cX7_waits 64 = .ok (.iload 4, 2) := by decide +kernel
theorem dX7_waits_66 : decode cX7_waits 66 = .ok (.if_icmp .ge 7, 3) := by decide +kernel
theorem dX7_waits_69 : decode cX7_waits 69 = .ok (.iconst 1, 1) := by decide +kernel
theorem dX7_waits_70 : decode cX7_waits 70 = .ok (.goto 4, 3) := by decide +kernel
theorem dX7_waits_73 : decode cX7_waits 73 = .ok (.iconst 0, 1) := by decide +kernel
theorem dX7_waits_74 : decode cX7_waits 74 = .ok (.iastore, 1) := by decide +kernel
theorem dX7_waits_75 : decode cX7_waits 75 = .ok (.aload_n 0, 1) := by decide +kernel
theorem dX7_waits_76 : decode cX7_waits 76 = .ok (.getfield 31, 3) := by decide +kernel
theorem dX7_waits_79 : decode cX7_waits 79 = .ok (.bipush 13, 2) := by decide +kernel
theorem dX7_waits_81 : decode cX7_waits 81 = .ok (.iconst 4, 1) := by decide +kernel
theorem dX7_waits_82 : decode cX7_waits 82 = .ok (.iload_n 2, 1) := by decide +kernel
theorem dX7_waits_83 : decode cX7_waits 83 = .ok (.imul, 1) := by decide +kernel
theorem dX7_waits_84 : decode cX7_waits 84 = .ok (.iadd, 1) := by decide +kernel
theorem dX7_waits_85 : decode cX7_waits 85 = .ok (.iconst 3, 1) := by decide +kernel
theorem dX7_waits_86 : decode cX7_waits 86 = .ok (.iadd, 1) := by decide +kernel
theorem dX7_waits_87 : decode cX7_waits 87 = .ok (.iload 6, 2) := by decide +kernel
theorem dX7_waits_89 : decode cX7_waits 89 = .ok (.iload 5, 2) := by decide +kernel
theorem dX7_waits_91 : decode cX7_waits 91 = .ok (.if_icmp .ge 7, 3) := by decide +kernel
theorem dX7_waits_94 : decode cX7_waits 94 = .ok (.iconst 1, 1) := by decide +kernel
theorem dX7_waits_95 : decode cX7_waits 95 = .ok (.goto 4, 3) := by decide +kernel
theorem dX7_waits_98 : decode cX7_waits 98 = .ok (.iconst 0, 1) := by decide +kernel
theorem dX7_waits_99 : decode cX7_waits 99 = .ok (.iastore, 1) := by decide +kernel
theorem dX7_waits_100 : decode cX7_waits 100 = .ok (.aload_n 0, 1) := by decide +kernel
theorem dX7_waits_101 : decode cX7_waits 101 = .ok (.aload_n 0, 1) := by decide +kernel
theorem dX7_waits_102 : decode cX7_waits 102 = .ok (.getfield 31, 3) := by decide +kernel
theorem dX7_waits_105 : decode cX7_waits 105 = .ok (.invokevirtual 187, 3) := by decide +kernel
theorem dX7_waits_108 : decode cX7_waits 108 = .ok (.iinc 6 1, 3) := by decide +kernel
theorem dX7_waits_111 : decode cX7_waits 111 = .ok (.goto (-67), 3) := by decide +kernel
theorem dX7_waits_114 : decode cX7_waits 114 = .ok (.aload_n 0, 1) := by decide +kernel
theorem dX7_waits_115 : decode cX7_waits 115 = .ok (.getfield 50, 3) := by decide +kernel
theorem dX7_waits_118 : decode cX7_waits 118 = .ok (.iconst 5, 1) := by decide +kernel
theorem dX7_waits_119 : decode cX7_waits 119 = .ok (.iload 4, 2) := by decide +kernel
theorem dX7_waits_121 : decode cX7_waits 121 = .ok (.imul, 1) := by decide +kernel
theorem dX7_waits_122 : decode cX7_waits 122 = .ok (.iload 5, 2) := by decide +kernel
theorem dX7_waits_124 : decode cX7_waits 124 = .ok (.iadd, 1) := by decide +kernel
theorem dX7_waits_125 : decode cX7_waits 125 = .ok (.aload_n 0, 1) := by decide +kernel
theorem dX7_waits_126 : decode cX7_waits 126 = .ok (.getfield 31, 3) := by decide +kernel
theorem dX7_waits_129 : decode cX7_waits 129 = .ok (.iconst 5, 1) := by decide +kernel
theorem dX7_waits_130 : decode cX7_waits 130 = .ok (.aload_n 0, 1) := by decide +kernel
theorem dX7_waits_131 : decode cX7_waits 131 = .ok (.getfield 25, 3) := by decide +kernel
theorem dX7_waits_134 : decode cX7_waits 134 = .ok (.bipush 13, 2) := by decide +kernel
theorem dX7_waits_136 : decode cX7_waits 136 = .ok (.iconst 4, 1) := by decide +kernel
theorem dX7_waits_137 : decode cX7_waits 137 = .ok (.iload_n 1, 1) := by decide +kernel
theorem dX7_waits_138 : decode cX7_waits 138 = .ok (.imul, 1) := by decide +kernel
theorem dX7_waits_139 : decode cX7_waits 139 = .ok (.iadd, 1) := by decide +kernel
theorem dX7_waits_140 : decode cX7_waits 140 = .ok (.iconst 2, 1) := by decide +kernel
theorem dX7_waits_141 : decode cX7_waits 141 = .ok (.iadd, 1) := by decide +kernel
theorem dX7_waits_142 : decode cX7_waits 142 = .ok (.iaload, 1) := by decide +kernel
theorem dX7_waits_143 : decode cX7_waits 143 = .ok (.iadd, 1) := by decide +kernel
theorem dX7_waits_144 : decode cX7_waits 144 = .ok (.iaload, 1) := by decide +kernel
theorem dX7_waits_145 : decode cX7_waits 145 = .ok (.iastore, 1) := by decide +kernel
theorem dX7_waits_146 : decode cX7_waits 146 = .ok (.aload_n 0, 1) := by decide +kernel
theorem dX7_waits_147 : decode cX7_waits 147 = .ok (.getfield 53, 3) := by decide +kernel
theorem dX7_waits_150 : decode cX7_waits 150 = .ok (.iconst 5, 1) := by decide +kernel
theorem dX7_waits_151 : decode cX7_waits 151 = .ok (.iload 4, 2) := by decide +kernel
theorem dX7_waits_153 : decode cX7_waits 153 = .ok (.imul, 1) := by decide +kernel
theorem dX7_waits_154 : decode cX7_waits 154 = .ok (.iload 5, 2) := by decide +kernel
theorem dX7_waits_156 : decode cX7_waits 156 = .ok (.iadd, 1) := by decide +kernel
theorem dX7_waits_157 : decode cX7_waits 157 = .ok (.aload_n 0, 1) := by decide +kernel
theorem dX7_waits_158 : decode cX7_waits 158 = .ok (.getfield 31, 3) := by decide +kernel
theorem dX7_waits_161 : decode cX7_waits 161 = .ok (.iconst 5, 1) := by decide +kernel
theorem dX7_waits_162 : decode cX7_waits 162 = .ok (.aload_n 0, 1) := by decide +kernel
theorem dX7_waits_163 : decode cX7_waits 163 = .ok (.getfield 25, 3) := by decide +kernel
theorem dX7_waits_166 : decode cX7_waits 166 = .ok (.bipush 13, 2) := by decide +kernel
theorem dX7_waits_168 : decode cX7_waits 168 = .ok (.iconst 4, 1) := by decide +kernel
theorem dX7_waits_169 : decode cX7_waits 169 = .ok (.iload_n 2, 1) := by decide +kernel
theorem dX7_waits_170 : decode cX7_waits 170 = .ok (.imul, 1) := by decide +kernel
theorem dX7_waits_171 : decode cX7_waits 171 = .ok (.iadd, 1) := by decide +kernel
theorem dX7_waits_172 : decode cX7_waits 172 = .ok (.iconst 2, 1) := by decide +kernel
theorem dX7_waits_173 : decode cX7_waits 173 = .ok (.iadd, 1) := by decide +kernel
theorem dX7_waits_174 : decode cX7_waits 174 = .ok (.iaload, 1) := by decide +kernel
theorem dX7_waits_175 : decode cX7_waits 175 = .ok (.iadd, 1) := by decide +kernel
theorem dX7_waits_176 : decode cX7_waits 176 = .ok (.iaload, 1) := by decide +kernel
theorem dX7_waits_177 : decode cX7_waits 177 = .ok (.iastore, 1) := by decide +kernel
theorem dX7_waits_178 : decode cX7_waits 178 = .ok (.return_, 1) := by decide +kernel
theorem dX7_isRest_0 : decode cX7_isRest 0 = .ok (.iconst 1, 1) := by decide +kernel
theorem dX7_isRest_1 : decode cX7_isRest 1 = .ok (.istore_n 3, 1) := by decide +kernel
theorem dX7_isRest_2 : decode cX7_isRest 2 = .ok (.iconst 0, 1) := by decide +kernel
theorem dX7_isRest_3 : decode cX7_isRest 3 = .ok (.istore 4, 2) := by decide +kernel
theorem dX7_isRest_5 : decode cX7_isRest 5 = .ok (.iload 4, 2) := by decide +kernel
theorem dX7_isRest_7 : decode cX7_isRest 7 = .ok (.iconst 5, 1) := by decide +kernel
theorem dX7_isRest_8 : decode cX7_isRest 8 = .ok (.if_icmp .ge 67, 3) := by decide +kernel
theorem dX7_isRest_11 : decode cX7_isRest 11 = .ok (.iload_n 3, 1) := by decide +kernel
theorem dX7_isRest_12 : decode cX7_isRest 12 = .ok (.ifCond .eq 55, 3) := by decide +kernel
theorem dX7_isRest_15 : decode cX7_isRest 15 = .ok (.aload_n 0, 1) := by decide +kernel
theorem dX7_isRest_16 : decode cX7_isRest 16 = .ok (.getfield 50, 3) := by decide +kernel
theorem dX7_isRest_19 : decode cX7_isRest 19 = .ok (.iconst 5, 1) := by decide +kernel
theorem dX7_isRest_20 : decode cX7_isRest 20 = .ok (.iload 4, 2) := by decide +kernel
theorem dX7_isRest_22 : decode cX7_isRest 22 = .ok (.imul, 1) := by decide +kernel
theorem dX7_isRest_23 : decode cX7_isRest 23 = .ok (.iload_n 2, 1) := by decide +kernel
theorem dX7_isRest_24 : decode cX7_isRest 24 = .ok (.iadd, 1) := by decide +kernel
theorem dX7_isRest_25 : decode cX7_isRest 25 = .ok (.iaload, 1) := by decide +kernel
theorem dX7_isRest_26 : decode cX7_isRest 26 = .ok (.aload_n 0, 1) := by decide +kernel
theorem dX7_isRest_27 : decode cX7_isRest 27 = .ok (.getfield 50, 3) := by decide +kernel
theorem dX7_isRest_30 : decode cX7_isRest 30 = .ok (.iconst 5, 1) := by decide +kernel
theorem dX7_isRest_31 : decode cX7_isRest 31 = .ok (.iload_n 1, 1) := by decide +kernel
theorem dX7_isRest_32 : decode cX7_isRest 32 = .ok (.imul, 1) := by decide +kernel
theorem dX7_isRest_33 : decode cX7_isRest 33 = .ok (.iload_n 2, 1) := by decide +kernel
theorem dX7_isRest_34 : decode cX7_isRest 34 = .ok (.iadd, 1) := by decide +kernel
theorem dX7_isRest_35 : decode cX7_isRest 35 = .ok (.iaload, 1) := by decide +kernel
theorem dX7_isRest_36 : decode cX7_isRest 36 = .ok (.if_icmp .gt 31, 3) := by decide +kernel
theorem dX7_isRest_39 : decode cX7_isRest 39 = .ok (.aload_n 0, 1) := by decide +kernel
theorem dX7_isRest_40 : decode cX7_isRest 40 = .ok (.getfield 53, 3) := by decide +kernel
theorem dX7_isRest_43 : decode cX7_isRest 43 = .ok (.iconst 5, 1) := by decide +kernel
theorem dX7_isRest_44 : decode cX7_isRest 44 = .ok (.iload_n 1, 1) := by decide +kernel
theorem dX7_isRest_45 : decode cX7_isRest 45 = .ok (.imul, 1) := by decide +kernel
theorem dX7_isRest_46 : decode cX7_isRest 46 = .ok (.iload 4, 2) := by decide +kernel
theorem dX7_isRest_48 : decode cX7_isRest 48 = .ok (.iadd, 1) := by decide +kernel
theorem dX7_isRest_49 : decode cX7_isRest 49 = .ok (.iaload, 1) := by decide +kernel
theorem dX7_isRest_50 : decode cX7_isRest 50 = .ok (.aload_n 0, 1) := by decide +kernel
theorem dX7_isRest_51 : decode cX7_isRest 51 = .ok (.getfield 53, 3) := by decide +kernel
theorem dX7_isRest_54 : decode cX7_isRest 54 = .ok (.iconst 5, 1) := by decide +kernel
theorem dX7_isRest_55 : decode cX7_isRest 55 = .ok (.iload_n 1, 1) := by decide +kernel
theorem dX7_isRest_56 : decode cX7_isRest 56 = .ok (.imul, 1) := by decide +kernel
theorem dX7_isRest_57 : decode cX7_isRest 57 = .ok (.iload_n 2, 1) := by decide +kernel
theorem dX7_isRest_58 : decode cX7_isRest 58 = .ok (.iadd, 1) := by decide +kernel
theorem dX7_isRest_59 : decode cX7_isRest 59 = .ok (.iaload, 1) := by decide +kernel
theorem dX7_isRest_60 : decode cX7_isRest 60 = .ok (.if_icmp .gt 7, 3) := by decide +kernel
theorem dX7_isRest_63 : decode cX7_isRest 63 = .ok (.iconst 1, 1) := by decide +kernel
theorem dX7_isRest_64 : decode cX7_isRest 64 = .ok (.goto 4, 3) := by decide +kernel
theorem dX7_isRest_67 : decode cX7_isRest 67 = .ok (.iconst 0, 1) := by decide +kernel
theorem dX7_isRest_68 : decode cX7_isRest 68 = .ok (.istore_n 3, 1) := by decide +kernel
theorem dX7_isRest_69 : decode cX7_isRest 69 = .ok (.iinc 4 1, 3) := by decide +kernel
theorem dX7_isRest_72 : decode cX7_isRest 72 = .ok (.goto (-67), 3) := by decide +kernel
theorem dX7_isRest_75 : decode cX7_isRest 75 = .ok (.iload_n 3, 1) := by decide +kernel
theorem dX7_isRest_76 : decode cX7_isRest 76 = .ok (.ireturn, 1) := by decide +kernel
theorem dX7_rests_0 : decode cX7_rests 0 = .ok (.aload_n 0, 1) := by decide +kernel
theorem dX7_rests_1 : decode cX7_rests 1 = .ok (.iload_n 1, 1) := by decide +kernel
theorem dX7_rests_2 : decode cX7_rests 2 = .ok (.invokevirtual 195, 3) := by decide +kernel
theorem dX7_rests_5 : decode cX7_rests 5 = .ok (.ifCond .eq 32, 3) := by decide +kernel
theorem dX7_rests_8 : decode cX7_rests 8 = .ok (.aload_n 0, 1) := by decide +kernel
theorem dX7_rests_9 : decode cX7_rests 9 = .ok (.iload_n 2, 1) := by decide +kernel
theorem dX7_rests_10 : decode cX7_rests 10 = .ok (.invokevirtual 195, 3) := by decide +kernel
theorem dX7_rests_13 : decode cX7_rests 13 = .ok (.ifCond .eq 24, 3) := by decide +kernel
theorem dX7_rests_16 : decode cX7_rests 16 = .ok (.iload_n 1, 1) := by decide +kernel
