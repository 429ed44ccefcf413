theorem dX10_hook_45 : decode cX10_hook 45 = .ok (.getfield 23, 3) := by decide +kernel
theorem dX10_hook_48 : decode cX10_hook 48 = .ok (.getfield 197, 3) := by decide +kernel
theorem dX10_hook_51 : decode cX10_hook 51 = .ok (.iload_n 1, 1) := by decide +kernel
theorem dX10_hook_52 : decode cX10_hook 52 = .ok (.iaload, 1) := by decide +kernel
theorem dX10_hook_53 : decode cX10_hook 53 = .ok (.ireturn, 1) := by decide +kernel
theorem dX10_hook_54 : decode cX10_hook 54 = .ok (.aload_n 0, 1) := by decide +kernel
theorem dX10_hook_55 : decode cX10_hook 55 = .ok (.getfield 23, 3) := by decide +kernel
theorem dX10_hook_58 : decode cX10_hook 58 = .ok (.getfield 200, 3) := by decide +kernel
theorem dX10_hook_61 : decode cX10_hook 61 = .ok (.iload_n 1, 1) := by decide +kernel
theorem dX10_hook_62 : decode cX10_hook 62 = .ok (.iaload, 1) := by decide +kernel
theorem dX10_hook_63 : decode cX10_hook 63 = .ok (.ireturn, 1) := by decide +kernel
theorem dX10_hook_64 : decode cX10_hook 64 = .ok (.aload_n 0, 1) := by decide +kernel
theorem dX10_hook_65 : decode cX10_hook 65 = .ok (.getfield 29, 3) := by decide +kernel
theorem dX10_hook_68 : decode cX10_hook 68 = .ok (.aload_n 0, 1) := by decide +kernel
theorem dX10_hook_69 : decode cX10_hook 69 = .ok (.getfield 23, 3) := by decide +kernel
theorem dX10_hook_72 : decode cX10_hook 72 = .ok (.iload_n 1, 1) := by decide +kernel
theorem dX10_hook_73 : decode cX10_hook 73 = .ok (.invokevirtual 203, 3) := by decide +kernel
theorem dX10_hook_76 : decode cX10_hook 76 = .ok (.invokevirtual 206, 3) := by decide +kernel
theorem dX10_hook_79 : decode cX10_hook 79 = .ok (.ireturn, 1) := by decide +kernel
theorem dX10_hook_80 : decode cX10_hook 80 = .ok (.ldc 86, 2) := by decide +kernel
theorem dX10_hook_82 : decode cX10_hook 82 = .ok (.ireturn, 1) := by decide +kernel
theorem dX10_word_0 : decode cX10_word 0 = .ok (.iload_n 1, 1) := by decide +kernel
theorem dX10_word_1 : decode cX10_word 1 = .ok (.ifCond .lt 14, 3) := by decide +kernel
theorem dX10_word_4 : decode cX10_word 4 = .ok (.iload_n 1, 1) := by decide +kernel
theorem dX10_word_5 : decode cX10_word 5 = .ok (.aload_n 0, 1) := by decide +kernel
theorem dX10_word_6 : decode cX10_word 6 = .ok (.getfield 23, 3) := by decide +kernel
theorem dX10_word_9 : decode cX10_word 9 = .ok (.getfield 128, 3) := by decide +kernel
theorem dX10_word_12 : decode cX10_word 12 = .ok (.if_icmp .lt 6, 3) := by decide +kernel
theorem dX10_word_15 : decode cX10_word 15 = .ok (.ldc 177, 2) := by decide +kernel
theorem dX10_word_17 : decode cX10_word 17 = .ok (.ireturn, 1) := by decide +kernel
theorem dX10_word_18 : decode cX10_word 18 = .ok (.iload_n 2, 1) := by decide +kernel
theorem dX10_word_19 : decode cX10_word 19 = .ok (.ifCond .lt 8, 3) := by decide +kernel
theorem dX10_word_22 : decode cX10_word 22 = .ok (.iload_n 2, 1) := by decide +kernel
theorem dX10_word_23 : decode cX10_word 23 = .ok (.iconst 4, 1) := by decide +kernel
theorem dX10_word_24 : decode cX10_word 24 = .ok (.if_icmp .lt 6, 3) := by decide +kernel
theorem dX10_word_27 : decode cX10_word 27 = .ok (.ldc 86, 2) := by decide +kernel
theorem dX10_word_29 : decode cX10_word 29 = .ok (.ireturn, 1) := by decide +kernel
theorem dX10_word_30 : decode cX10_word 30 = .ok (.iload_n 2, 1) := by decide +kernel
theorem dX10_word_31 : decode cX10_word 31 = .ok (.aload_n 0, 1) := by decide +kernel
theorem dX10_word_32 : decode cX10_word 32 = .ok (.getfield 23, 3) := by decide +kernel
theorem dX10_word_35 : decode cX10_word 35 = .ok (.getfield 209, 3) := by decide +kernel
theorem dX10_word_38 : decode cX10_word 38 = .ok (.iload_n 1, 1) := by decide +kernel
theorem dX10_word_39 : decode cX10_word 39 = .ok (.iaload, 1) := by decide +kernel
theorem dX10_word_40 : decode cX10_word 40 = .ok (.if_icmp .ge 15, 3) := by decide +kernel
theorem dX10_word_43 : decode cX10_word 43 = .ok (.aload_n 0, 1) := by decide +kernel
theorem dX10_word_44 : decode cX10_word 44 = .ok (.getfield 23, 3) := by decide +kernel
theorem dX10_word_47 : decode cX10_word 47 = .ok (.iload_n 1, 1) := by decide +kernel
theorem dX10_word_48 : decode cX10_word 48 = .ok (.iload_n 2, 1) := by decide +kernel
theorem dX10_word_49 : decode cX10_word 49 = .ok (.invokevirtual 212, 3) := by decide +kernel
theorem dX10_word_52 : decode cX10_word 52 = .ok (.goto 4, 3) := by decide +kernel
theorem dX10_word_55 : decode cX10_word 55 = .ok (.iconst (-1), 1) := by decide +kernel
theorem dX10_word_56 : decode cX10_word 56 = .ok (.ireturn, 1) := by decide +kernel
theorem dX10_turn_0 : decode cX10_turn 0 = .ok (.iload_n 1, 1) := by decide +kernel
theorem dX10_turn_1 : decode cX10_turn 1 = .ok (.iconst 2, 1) := by decide +kernel
theorem dX10_turn_2 : decode cX10_turn 2 = .ok (.if_icmp .lt 14, 3) := by decide +kernel
theorem dX10_turn_5 : decode cX10_turn 5 = .ok (.iload_n 1, 1) := by decide +kernel
theorem dX10_turn_6 : decode cX10_turn 6 = .ok (.aload_n 0, 1) := by decide +kernel
theorem dX10_turn_7 : decode cX10_turn 7 = .ok (.getfield 29, 3) := by decide +kernel
theorem dX10_turn_10 : decode cX10_turn 10 = .ok (.getfield 140, 3) := by decide +kernel
theorem dX10_turn_13 : decode cX10_turn 13 = .ok (.if_icmp .le 6, 3) := by decide +kernel
theorem dX10_turn_16 : decode cX10_turn 16 = .ok (.ldc 86, 2) := by decide +kernel
theorem dX10_turn_18 : decode cX10_turn 18 = .ok (.ireturn, 1) := by decide +kernel
theorem dX10_turn_19 : decode cX10_turn 19 = .ok (.aload_n 0, 1) := by decide +kernel
theorem dX10_turn_20 : decode cX10_turn 20 = .ok (.getfield 36, 3) := by decide +kernel
theorem dX10_turn_23 : decode cX10_turn 23 = .ok (.aload_n 0, 1) := by decide +kernel
theorem dX10_turn_24 : decode cX10_turn 24 = .ok (.getfield 29, 3) := by decide +kernel
theorem dX10_turn_27 : decode cX10_turn 27 = .ok (.invokevirtual 216, 3) := by decide +kernel
theorem dX10_turn_30 : decode cX10_turn 30 = .ok (.aload_n 0, 1) := by decide +kernel
theorem dX10_turn_31 : decode cX10_turn 31 = .ok (.getfield 29, 3) := by decide +kernel
theorem dX10_turn_34 : decode cX10_turn 34 = .ok (.iload_n 1, 1) := by decide +kernel
theorem dX10_turn_35 : decode cX10_turn 35 = .ok (.invokevirtual 220, 3) := by decide +kernel
theorem dX10_turn_38 : decode cX10_turn 38 = .ok (.aload_n 0, 1) := by decide +kernel
theorem dX10_turn_39 : decode cX10_turn 39 = .ok (.getfield 29, 3) := by decide +kernel
theorem dX10_turn_42 : decode cX10_turn 42 = .ok (.iconst 0, 1) := by decide +kernel
theorem dX10_turn_43 : decode cX10_turn 43 = .ok (.invokevirtual 194, 3) := by decide +kernel
theorem dX10_turn_46 : decode cX10_turn 46 = .ok (.ireturn, 1) := by decide +kernel
theorem dX10_cut_0 : decode cX10_cut 0 = .ok (.iload_n 1, 1) := by decide +kernel
theorem dX10_cut_1 : decode cX10_cut 1 = .ok (.iconst 1, 1) := by decide +kernel
theorem dX10_cut_2 : decode cX10_cut 2 = .ok (.if_icmp .lt 14, 3) := by decide +kernel
theorem dX10_cut_5 : decode cX10_cut 5 = .ok (.iload_n 1, 1) := by decide +kernel
theorem dX10_cut_6 : decode cX10_cut 6 = .ok (.aload_n 0, 1) := by decide +kernel
theorem dX10_cut_7 : decode cX10_cut 7 = .ok (.getfield 29, 3) := by decide +kernel
theorem dX10_cut_10 : decode cX10_cut 10 = .ok (.getfield 140, 3) := by decide +kernel
theorem dX10_cut_13 : decode cX10_cut 13 = .ok (.if_icmp .lt 6, 3) := by decide +kernel
theorem dX10_cut_16 : decode cX10_cut 16 = .ok (.ldc 86, 2) := by decide +kernel
theorem dX10_cut_18 : decode cX10_cut 18 = .ok (.ireturn, 1) := by decide +kernel
theorem dX10_cut_19 : decode cX10_cut 19 = .ok (.aload_n 0, 1) := by decide +kernel
theorem dX10_cut_20 : decode cX10_cut 20 = .ok (.getfield 36, 3) := by decide +kernel
theorem dX10_cut_23 : decode cX10_cut 23 = .ok (.aload_n 0, 1) := by decide +kernel
theorem dX10_cut_24 : decode cX10_cut 24 = .ok (.getfield 29, 3) := by decide +kernel
theorem dX10_cut_27 : decode cX10_cut 27 = .ok (.invokevirtual 216, 3) := by decide +kernel
theorem dX10_cut_30 : decode cX10_cut 30 = .ok (.aload_n 0, 1) := by decide +kernel
theorem dX10_cut_31 : decode cX10_cut 31 = .ok (.getfield 29, 3) := by decide +kernel
theorem dX10_cut_34 : decode cX10_cut 34 = .ok (.iload_n 1, 1) := by decide +kernel
theorem dX10_cut_35 : decode cX10_cut 35 = .ok (.invokevirtual 224, 3) := by decide +kernel
theorem dX10_cut_38 : decode cX10_cut 38 = .ok (.aload_n 0, 1) := by decide +kernel
theorem dX10_cut_39 : decode cX10_cut 39 = .ok (.getfield 29, 3) := by decide +kernel
theorem dX10_cut_42 : decode cX10_cut 42 = .ok (.iconst 0, 1) := by decide +kernel
theorem dX10_cut_43 : decode cX10_cut 43 = .ok (.invokevirtual 194, 3) := by decide +kernel
theorem dX10_cut_46 : decode cX10_cut 46 = .ok (.ireturn, 1) := by decide +kernel
theorem dX10_eat_0 : decode cX10_eat 0 = .ok (.aload_n 0, 1) := by decide +kernel
theorem dX10_eat_1 : decode cX10_eat 1 = .ok (.getfield 23, 3) := by decide +kernel
theorem dX10_eat_4 : decode cX10_eat 4 = .ok (.iload_n 1, 1) := by decide +kernel
theorem dX10_eat_5 : decode cX10_eat 5 = .ok (.invokevirtual 173, 3) := by decide +kernel
theorem dX10_eat_8 : decode cX10_eat 8 = .ok (.ifCond .ne 6, 3) := by decide +kernel
theorem dX10_eat_11 : decode cX10_eat 11 = .ok (.ldc 177, 2) := by decide +kernel
theorem dX10_eat_13 : decode cX10_eat 13 = .ok (.ireturn, 1) := by decide +kernel
theorem dX10_eat_14 : decode cX10_eat 14 = .ok (.aload_n 0, 1) := by decide +kernel
theorem dX10_eat_15 : decode cX10_eat 15 = .ok (.getfield 29, 3) := by decide +kernel
theorem dX10_eat_18 : decode cX10_eat 18 = .ok (.iload_n 1, 1) := by decide +kernel
theorem dX10_eat_19 : decode cX10_eat 19 = .ok (.invokevirtual 184, 3) := by decide +kernel
theorem dX10_eat_22 : decode cX10_eat 22 = .ok (.istore_n 2, 1) := by decide +kernel
theorem dX10_eat_23 : decode cX10_eat 23 = .ok (.iload_n 2, 1) := by decide +kernel
theorem dX10_eat_24 : decode cX10_eat 24 = .ok (.iconst (-1), 1) := by decide +kernel
theorem dX10_eat_25 : decode cX10_eat 25 = .ok (.if_icmp .ne 6, 3) := by decide +kernel
theorem dX10_eat_28 : decode cX10_eat 28 = .ok (.ldc 227, 2) := by decide +kernel
theorem dX10_eat_30 : decode cX10_eat 30 = .ok (.ireturn, 1) := by decide +kernel
theorem dX10_eat_31 : decode cX10_eat 31 = .ok (.aload_n 0, 1) := by decide +kernel
theorem dX10_eat_32 : decode cX10_eat 32 = .ok (.getfield 36, 3) := by decide +kernel
theorem dX10_eat_35 : decode cX10_eat 35 = .ok (.aload_n 0, 1) := by decide +kernel
theorem dX10_eat_36 : decode cX10_eat 36 = .ok (.getfield 29, 3) := by decide +kernel
theorem dX10_eat_39 : decode cX10_eat 39 = .ok (.invokevirtual 216, 3) := by decide +kernel
theorem dX10_eat_42 : decode cX10_eat 42 = .ok (.aload_n 0, 1) := by decide +kernel
theorem dX10_eat_43 : decode cX10_eat 43 = .ok (.getfield 29, 3) := by decide +kernel
theorem dX10_eat_46 : decode cX10_eat 46 = .ok (.iload_n 2, 1) := by decide +kernel
theorem dX10_eat_47 : decode cX10_eat 47 = .ok (.invokevirtual 228, 3) := by decide +kernel
theorem dX10_eat_50 : decode cX10_eat 50 = .ok (.iload_n 2, 1) := by decide +kernel
theorem dX10_eat_51 : decode cX10_eat 51 = .ok (.ireturn, 1) := by decide +kernel
theorem dX10_sew_0 : decode cX10_sew 0 = .ok (.aload_n 0, 1) := by decide +kernel
theorem dX10_sew_1 : decode cX10_sew 1 = .ok (.getfield 23, 3) := by decide +kernel
theorem dX10_sew_4 : decode cX10_sew 4 = .ok (.iload_n 1, 1) := by decide +kernel
theorem dX10_sew_5 : decode cX10_sew 5 = .ok (.invokevirtual 173, 3) := by decide +kernel
theorem dX10_sew_8 : decode cX10_sew 8 = .ok (.ifCond .ne 6, 3) := by decide +kernel
theorem dX10_sew_11 : decode cX10_sew 11 = .ok (.ldc 177, 2) := by decide +kernel
theorem dX10_sew_13 : decode cX10_sew 13 = .ok (.ireturn, 1) := by decide +kernel
theorem dX10_sew_14 : decode cX10_sew 14 = .ok (.iload_n 2, 1) := by decide +kernel
theorem dX10_sew_15 : decode cX10_sew 15 = .ok (.ifCond .lt 14, 3) := by decide +kernel
theorem dX10_sew_18 : decode cX10_sew 18 = .ok (.iload_n 2, 1) := by decide +kernel
theorem dX10_sew_19 : decode cX10_sew 19 = .ok (.aload_n 0, 1) := by decide +kernel
theorem dX10_sew_20 : decode cX10_sew 20 = .ok (.getfield 29, 3) := by decide +kernel
theorem dX10_sew_23 : decode cX10_sew 23 = .ok (.getfield 140, 3) := by decide +kernel
theorem dX10_sew_26 : decode cX10_sew 26 = .ok (.if_icmp .le 6, 3) := by decide +kernel
theorem dX10_sew_29 : decode cX10_sew 29 = .ok (.ldc 86, 2) := by decide +kernel
theorem dX10_sew_31 : decode cX10_sew 31 = .ok (.ireturn, 1) := by decide +kernel
theorem dX10_sew_32 : decode cX10_sew 32 = .ok (.aload_n 0, 1) := by decide +kernel
theorem dX10_sew_33 : decode cX10_sew 33 = .ok (.getfield 29, 3) := by decide +kernel
theorem dX10_sew_36 : decode cX10_sew 36 = .ok (.iload_n 1, 1) := by decide +kernel
theorem dX10_sew_37 : decode cX10_sew 37 = .ok (.invokevirtual 184, 3) := by decide +kernel
theorem dX10_sew_40 : decode cX10_sew 40 = .ok (.iconst (-1), 1) := by decide +kernel
theorem dX10_sew_41 : decode cX10_sew 41 = .ok (.if_icmp .eq 6, 3) := by decide +kernel
theorem dX10_sew_44 : decode cX10_sew 44 = .ok (.ldc 227, 2) := by decide +kernel
theorem dX10_sew_46 : decode cX10_sew 46 = .ok (.ireturn, 1) := by decide +kernel
theorem dX10_sew_47 : decode cX10_sew 47 = .ok (.aload_n 0, 1) := by decide +kernel
theorem dX10_sew_48 : decode cX10_sew 48 = .ok (.getfield 36, 3) := by decide +kernel
theorem dX10_sew_51 : decode cX10_sew 51 = .ok (.aload_n 0, 1) := by decide +kernel
theorem dX10_sew_52 : decode cX10_sew 52 = .ok (.getfield 29, 3) := by decide +kernel
theorem dX10_sew_55 : decode cX10_sew 55 = .ok (.invokevirtual 216, 3) := by decide +kernel
theorem dX10_sew_58 : decode cX10_sew 58 = .ok (.aload_n 0, 1) := by decide +kernel
theorem dX10_sew_59 : decode cX10_sew 59 = .ok (.getfield 29, 3) := by decide +kernel
theorem dX10_sew_62 : decode cX10_sew 62 = .ok (.iload_n 1, 1) := by decide +kernel
theorem dX10_sew_63 : decode cX10_sew 63 = .ok (.iload_n 2, 1) := by decide +kernel
theorem dX10_sew_64 : decode cX10_sew 64 = .ok (.invokevirtual 231, 3) := by decide +kernel
theorem dX10_sew_67 : decode cX10_sew 67 = .ok (.aload_n 0, 1) := by decide +kernel
theorem dX10_sew_68 : decode cX10_sew 68 = .ok (.getfield 29, 3) := by decide +kernel
theorem dX10_sew_71 : decode cX10_sew 71 = .ok (.getfield 140, 3) := by decide +kernel
theorem dX10_sew_74 : decode cX10_sew 74 = .ok (.ireturn, 1) := by decide +kernel
theorem dX10_rain_0 : decode cX10_rain 0 = .ok (.aload_n 0, 1) := by decide +kernel
theorem dX10_rain_1 : decode cX10_rain 1 = .ok (.getfield 23, 3) := by decide +kernel
theorem dX10_rain_4 : decode cX10_rain 4 = .ok (.getfield 125, 3) := by decide +kernel
theorem dX10_rain_7 : decode cX10_rain 7 = .ok (.ifCond .ne 6, 3) := by decide +kernel
theorem dX10_rain_10 : decode cX10_rain 10 = .ok (.ldc 227, 2) := by decide +kernel
theorem dX10_rain_12 : decode cX10_rain 12 = .ok (.ireturn, 1) := by decide +kernel
theorem dX10_rain_13 : decode cX10_rain 13 = .ok (.aload_n 0, 1) := by decide +kernel
theorem dX10_rain_14 : decode cX10_rain 14 = .ok (.getfield 29, 3) := by decide +kernel
theorem dX10_rain_17 : decode cX10_rain 17 = .ok (.getfield 149, 3) := by decide +kernel
theorem dX10_rain_20 : decode cX10_rain 20 = .ok (.invokestatic 235, 3) := by decide +kernel
theorem dX10_rain_23 : decode cX10_rain 23 = .ok (.istore_n 2, 1) := by decide +kernel
theorem dX10_rain_24 : decode cX10_rain 24 = .ok (.aload_n 0, 1) := by decide +kernel
theorem dX10_rain_25 : decode cX10_rain 25 = .ok (.getfield 36, 3) := by decide +kernel
theorem dX10_rain_28 : decode cX10_rain 28 = .ok (.aload_n 0, 1) := by decide +kernel
theorem dX10_rain_29 : decode cX10_rain 29 = .ok (.getfield 29, 3) := by decide +kernel
theorem dX10_rain_32 : decode cX10_rain 32 = .ok (.invokevirtual 216, 3) := by decide +kernel
theorem dX10_rain_35 : decode cX10_rain 35 = .ok (.aload_n 0, 1) := by decide +kernel
theorem dX10_rain_36 : decode cX10_rain 36 = .ok (.getfield 29, 3) := by decide +kernel
theorem dX10_rain_39 : decode cX10_rain 39 = .ok (.iload_n 1, 1) := by decide +kernel
theorem dX10_rain_40 : decode cX10_rain 40 = .ok (.ifCond .eq 13, 3) := by decide +kernel
theorem dX10_rain_43 : decode cX10_rain 43 = .ok (.aload_n 0, 1) := by decide +kernel
theorem dX10_rain_44 : decode cX10_rain 44 = .ok (.getfield 29, 3) := by decide +kernel
theorem dX10_rain_47 : decode cX10_rain 47 = .ok (.invokevirtual 141, 3) := by decide +kernel
theorem dX10_rain_50 : decode cX10_rain 50 = .ok (.goto 4, 3) := by decide +kernel
theorem dX10_rain_53 : decode cX10_rain 53 = .ok (.iconst 0, 1) := by decide +kernel
theorem dX10_rain_54 : decode cX10_rain 54 = .ok (.putfield 149, 3) := by decide +kernel
theorem dX10_rain_57 : decode cX10_rain 57 = .ok (.iload_n 2, 1) := by decide +kernel
theorem dX10_rain_58 : decode cX10_rain 58 = .ok (.ireturn, 1) := by decide +kernel
theorem dX10_wind_0 : decode cX10_wind 0 = .ok (.iload_n 1, 1) := by decide +kernel
theorem dX10_wind_1 : decode cX10_wind 1 = .ok (.ifCond .lt 9, 3) := by decide +kernel
theorem dX10_wind_4 : decode cX10_wind 4 = .ok (.iload_n 1, 1) := by decide +kernel
theorem dX10_wind_5 : decode cX10_wind 5 = .ok (.bipush 9, 2) := by decide +kernel
theorem dX10_wind_7 : decode cX10_wind 7 = .ok (.if_icmp .le 6, 3) := by decide +kernel
theorem dX10_wind_10 : decode cX10_wind 10 = .ok (.ldc 86, 2) := by decide +kernel
theorem dX10_wind_12 : decode cX10_wind 12 = .ok (.ireturn, 1) := by decide +kernel
theorem dX10_wind_13 : decode cX10_wind 13 = .ok (.aload_n 0, 1) := by decide +kernel
theorem dX10_wind_14 : decode cX10_wind 14 = .ok (.getfield 23, 3) := by decide +kernel
theorem dX10_wind_17 : decode cX10_wind 17 = .ok (.getfield 125, 3) := by decide +kernel
theorem dX10_wind_20 : decode cX10_wind 20 = .ok (.ifCond .ne 6, 3) := by decide +kernel
theorem dX10_wind_23 : decode cX10_wind 23 = .ok (.ldc 227, 2) := by decide +kernel
theorem dX10_wind_25 : decode cX10_wind 25 = .ok (.ireturn, 1) := by decide +kernel
theorem dX10_wind_26 : decode cX10_wind 26 = .ok (.aload_n 0, 1) := by decide +kernel
theorem dX10_wind_27 : decode cX10_wind 27 = .ok (.getfield 29, 3) := by decide +kernel
theorem dX10_wind_30 : decode cX10_wind 30 = .ok (.getfield 137, 3) := by decide +kernel
theorem dX10_wind_33 : decode cX10_wind 33 = .ok (.istore_n 2, 1) := by decide +kernel
theorem dX10_wind_34 : decode cX10_wind 34 = .ok (.aload_n 0, 1) := by decide +kernel
theorem dX10_wind_35 : decode cX10_wind 35 = .ok (.getfield 36, 3) := by decide +kernel
theorem dX10_wind_38 : decode cX10_wind 38 = .ok (.aload_n 0, 1) := by decide +kernel
theorem dX10_wind_39 : decode cX10_wind 39 = .ok (.getfield 29, 3) := by decide +kernel
theorem dX10_wind_42 : decode cX10_wind 42 = .ok (.invokevirtual 216, 3) := by decide +kernel
theorem dX10_wind_45 : decode cX10_wind 45 = .ok (.aload_n 0, 1) := by decide +kernel
theorem dX10_wind_46 : decode cX10_wind 46 = .ok (.getfield 29, 3) := by decide +kernel
theorem dX10_wind_49 : decode cX10_wind 49 = .ok (.iload_n 1, 1) := by decide +kernel
theorem dX10_wind_50 : decode cX10_wind 50 = .ok (.putfield 137, 3) := by decide +kernel
theorem dX10_wind_53 : decode cX10_wind 53 = .ok (.iload_n 2, 1) := by decide +kernel
theorem dX10_wind_54 : decode cX10_wind 54 = .ok (.ireturn, 1) := by decide +kernel
theorem dX10_year_0 : decode cX10_year 0 = .ok (.aload_n 0, 1) := by decide +kernel
theorem dX10_year_1 : decode cX10_year 1 = .ok (.iload_n 1, 1) := by decide +kernel
theorem dX10_year_2 : decode cX10_year 2 = .ok (.invokevirtual 240, 3) := by decide +kernel
theorem dX10_year_5 : decode cX10_year 5 = .ok (.istore_n 2, 1) := by decide +kernel
theorem dX10_year_6 : decode cX10_year 6 = .ok (.iload_n 2, 1) := by decide +kernel
theorem dX10_year_7 : decode cX10_year 7 = .ok (.ifCond .eq 5, 3) := by decide +kernel
theorem dX10_year_10 : decode cX10_year 10 = .ok (.iload_n 2, 1) := by decide +kernel
theorem dX10_year_11 : decode cX10_year 11 = .ok (.ireturn, 1) := by decide +kernel
theorem dX10_year_12 : decode cX10_year 12 = .ok (.iconst 0, 1) := by decide +kernel
theorem dX10_year_13 : decode cX10_year 13 = .ok (.istore_n 3, 1) := by decide +kernel
theorem dX10_year_14 : decode cX10_year 14 = .ok (.iload_n 3, 1) := by decide +kernel
theorem dX10_year_15 : decode cX10_year 15 = .ok (.iload_n 1, 1) := by decide +kernel
theorem dX10_year_16 : decode cX10_year 16 = .ok (.if_icmp .ge 31, 3) := by decide +kernel
theorem dX10_year_19 : decode cX10_year 19 = .ok (.aload_n 0, 1) := by decide +kernel
theorem dX10_year_20 : decode cX10_year 20 = .ok (.getfield 36, 3) := by decide +kernel
theorem dX10_year_23 : decode cX10_year 23 = .ok (.aload_n 0, 1) := by decide +kernel
theorem dX10_year_24 : decode cX10_year 24 = .ok (.getfield 29, 3) := by decide +kernel
theorem dX10_year_27 : decode cX10_year 27 = .ok (.invokevirtual 216, 3) := by decide +kernel
theorem dX10_year_30 : decode cX10_year 30 = .ok (.aload_n 0, 1) := by decide +kernel
theorem dX10_year_31 : decode cX10_year 31 = .ok (.getfield 29, 3) := by decide +kernel
theorem dX10_year_34 : decode cX10_year 34 = .ok (.aload_n 0, 1) := by decide +kernel
theorem dX10_year_35 : decode cX10_year 35 = .ok (.getfield 23, 3) := by decide +kernel
theorem dX10_year_38 : decode cX10_year 38 = .ok (.invokevirtual 243, 3) := by decide +kernel
theorem dX10_year_41 : decode cX10_year 41 = .ok (.iinc 3 1, 3) := by decide +kernel
theorem dX10_year_44 : decode cX10_year 44 = .ok (.goto (-30), 3) := by decide +kernel
theorem dX10_year_47 : decode cX10_year 47 = .ok (.aload_n 0, 1) := by decide +kernel
theorem dX10_year_48 : decode cX10_year 48 = .ok (.getfield 29, 3) := by decide +kernel
theorem dX10_year_51 : decode cX10_year 51 = .ok (.getfield 140, 3) := by decide +kernel
theorem dX10_year_54 : decode cX10_year 54 = .ok (.ireturn, 1) := by decide +kernel
theorem dX10_drift_0 : decode cX10_drift 0 = .ok (.aload_n 0, 1) := by decide +kernel
theorem dX10_drift_1 : decode cX10_drift 1 = .ok (.iload_n 1, 1) := by decide +kernel
theorem dX10_drift_2 : decode cX10_drift 2 = .ok (.invokevirtual 240, 3) := by decide +kernel
theorem dX10_drift_5 : decode cX10_drift 5 = .ok (.istore_n 2, 1) := by decide +kernel
theorem dX10_drift_6 : decode cX10_drift 6 = .ok (.iload_n 2, 1) := by decide +kernel
theorem dX10_drift_7 : decode cX10_drift 7 = .ok (.ifCond .eq 5, 3) := by decide +kernel
theorem dX10_drift_10 : decode cX10_drift 10 = .ok (.iload_n 2, 1) := by decide +kernel
theorem dX10_drift_11 : decode cX10_drift 11 = .ok (.ireturn, 1) := by decide +kernel
theorem dX10_drift_12 : decode cX10_drift 12 = .ok (.iconst 0, 1) := by decide +kernel
theorem dX10_drift_13 : decode cX10_drift 13 = .ok (.istore_n 3, 1) := by decide +kernel
theorem dX10_drift_14 : decode cX10_drift 14 = .ok (.iload_n 3, 1) := by decide +kernel
theorem dX10_drift_15 : decode cX10_drift 15 = .ok (.iload_n 1, 1) := by decide +kernel
theorem dX10_drift_16 : decode cX10_drift 16 = .ok (.if_icmp .ge 35, 3) := by decide +kernel
theorem dX10_drift_19 : decode cX10_drift 19 = .ok (.aload_n 0, 1) := by decide +kernel
theorem dX10_drift_20 : decode cX10_drift 20 = .ok (.getfield 36, 3) := by decide +kernel
theorem dX10_drift_23 : decode cX10_drift 23 = .ok (.aload_n 0, 1) := by decide +kernel
theorem dX10_drift_24 : decode cX10_drift 24 = .ok (.getfield 29, 3) := by decide +kernel
theorem dX10_drift_27 : decode cX10_drift 27 = .ok (.invokevirtual 216, 3) := by decide +kernel
theorem dX10_drift_30 : decode cX10_drift 30 = .ok (.aload_n 0, 1) := by decide +kernel
theorem dX10_drift_31 : decode cX10_drift 31 = .ok (.invokevirtual 246, 3) := by decide +kernel
theorem dX10_drift_34 : decode cX10_drift 34 = .ok (.aload_n 0, 1) := by decide +kernel
theorem dX10_drift_35 : decode cX10_drift 35 = .ok (.getfield 29, 3) := by decide +kernel
theorem dX10_drift_38 : decode cX10_drift 38 = .ok (.aload_n 0, 1) := by decide +kernel
theorem dX10_drift_39 : decode cX10_drift 39 = .ok (.getfield 23, 3) := by decide +kernel
theorem dX10_drift_42 : decode cX10_drift 42 = .ok (.invokevirtual 243, 3) := by decide +kernel
theorem dX10_drift_45 : decode cX10_drift 45 = .ok (.iinc 3 1, 3) := by decide +kernel
theorem dX10_drift_48 : decode cX10_drift 48 = .ok (.goto (-34), 3) := by decide +kernel
theorem dX10_drift_51 : decode cX10_drift 51 = .ok (.aload_n 0, 1) := by decide +kernel
theorem dX10_drift_52 : decode cX10_drift 52 = .ok (.getfield 29, 3) := by decide +kernel
theorem dX10_drift_55 : decode cX10_drift 55 = .ok (.getfield 140, 3) := by decide +kernel
theorem dX10_drift_58 : decode cX10_drift 58 = .ok (.ireturn, 1) := by decide +kernel
theorem dX10_undo_0 : decode cX10_undo 0 = .ok (.iload_n 1, 1) := by decide +kernel
theorem dX10_undo_1 : decode cX10_undo 1 = .ok (.iconst 1, 1) := by decide +kernel
theorem dX10_undo_2 : decode cX10_undo 2 = .ok (.if_icmp .lt 9, 3) := by decide +kernel
theorem dX10_undo_5 : decode cX10_undo 5 = .ok (.iload_n 1, 1) := by decide +kernel
theorem dX10_undo_6 : decode cX10_undo 6 = .ok (.bipush 30, 2) := by decide +kernel
theorem dX10_undo_8 : decode cX10_undo 8 = .ok (.if_icmp .le 6, 3) := by decide +kernel
theorem dX10_undo_11 : decode cX10_undo 11 = .ok (.ldc 86, 2) := by decide +kernel
theorem dX10_undo_13 : decode cX10_undo 13 = .ok (.ireturn, 1) := by decide +kernel
theorem dX10_undo_14 : decode cX10_undo 14 = .ok (.iload_n 1, 1) := by decide +kernel
theorem dX10_undo_15 : decode cX10_undo 15 = .ok (.aload_n 0, 1) := by decide +kernel
theorem dX10_undo_16 : decode cX10_undo 16 = .ok (.getfield 36, 3) := by decide +kernel
theorem dX10_undo_19 : decode cX10_undo 19 = .ok (.getfield 172, 3) := by decide +kernel
theorem dX10_undo_22 : decode cX10_undo 22 = .ok (.if_icmp .le 6, 3) := by decide +kernel
theorem dX10_undo_25 : decode cX10_undo 25 = .ok (.ldc 227, 2) := by decide +kernel
theorem dX10_undo_27 : decode cX10_undo 27 = .ok (.ireturn, 1) := by decide +kernel
theorem dX10_undo_28 : decode cX10_undo 28 = .ok (.aload_n 0, 1) := by decide +kernel
theorem dX10_undo_29 : decode cX10_undo 29 = .ok (.getfield 36, 3) := by decide +kernel
theorem dX10_undo_32 : decode cX10_undo 32 = .ok (.iload_n 1, 1) := by decide +kernel
theorem dX10_undo_33 : decode cX10_undo 33 = .ok (.aload_n 0, 1) := by decide +kernel
theorem dX10_undo_34 : decode cX10_undo 34 = .ok (.getfield 29, 3) := by decide +kernel
theorem dX10_undo_37 : decode cX10_undo 37 = .ok (.invokevirtual 249, 3) := by decide +kernel
theorem dX10_undo_40 : decode cX10_undo 40 = .ok (.aload_n 0, 1) := by decide +kernel
theorem dX10_undo_41 : decode cX10_undo 41 = .ok (.getfield 29, 3) := by decide +kernel
theorem dX10_undo_44 : decode cX10_undo 44 = .ok (.getfield 134, 3) := by decide +kernel
theorem dX10_undo_47 : decode cX10_undo 47 = .ok (.ireturn, 1) := by decide +kernel
theorem dX10_turnings_0 : decode cX10_turnings 0 = .ok (.iload_n 1, 1) := by decide +kernel
theorem dX10_turnings_1 : decode cX10_turnings 1 = .ok (.lookupswitch 51 #[(0, 27), (1, 39)], 27) := by decide +kernel
theorem dX10_turnings_28 : decode cX10_turnings 28 = .ok (.aload_n 0, 1) := by decide +kernel
theorem dX10_turnings_29 : decode cX10_turnings 29 = .ok (.getfield 50, 3) := by decide +kernel
theorem dX10_turnings_32 : decode cX10_turnings 32 = .ok (.aload_n 0, 1) := by decide +kernel
theorem dX10_turnings_33 : decode cX10_turnings 33 = .ok (.getfield 29, 3) := by decide +kernel
theorem dX10_turnings_36 : decode cX10_turnings 36 = .ok (.invokevirtual 253, 3) := by decide +kernel
theorem dX10_turnings_39 : decode cX10_turnings 39 = .ok (.ireturn, 1) := by decide +kernel
theorem dX10_turnings_40 : decode cX10_turnings 40 = .ok (.aload_n 0, 1) := by decide +kernel
theorem dX10_turnings_41 : decode cX10_turnings 41 = .ok (.getfield 50, 3) := by decide +kernel
theorem dX10_turnings_44 : decode cX10_turnings 44 = .ok (.aload_n 0, 1) := by decide +kernel
theorem dX10_turnings_45 : decode cX10_turnings 45 = .ok (.getfield 29, 3) := by decide +kernel
theorem dX10_turnings_48 : decode cX10_turnings 48 = .ok (.invokevirtual 257, 3) := by decide +kernel
theorem dX10_turnings_51 : decode cX10_turnings 51 = .ok (.ireturn, 1) := by decide +kernel
theorem dX10_turnings_52 : decode cX10_turnings 52 = .ok (.ldc 86, 2) := by decide +kernel
theorem dX10_turnings_54 : decode cX10_turnings 54 = .ok (.ireturn, 1) := by decide +kernel
theorem dX10_loose_0 : decode cX10_loose 0 = .ok (.iload_n 1, 1) := by decide +kernel
theorem dX10_loose_1 : decode cX10_loose 1 = .ok (.lookupswitch 46 #[(0, 27), (1, 38)], 27) := by decide +kernel
theorem dX10_loose_28 : decode cX10_loose 28 = .ok (.aload_n 0, 1) := by decide +kernel
theorem dX10_loose_29 : decode cX10_loose 29 = .ok (.getfield 29, 3) := by decide +kernel
theorem dX10_loose_32 : decode cX10_loose 32 = .ok (.invokevirtual 260, 3) := by decide +kernel
theorem dX10_loose_35 : decode cX10_loose 35 = .ok (.invokestatic 235, 3) := by decide +kernel
theorem dX10_loose_38 : decode cX10_loose 38 = .ok (.ireturn, 1) := by decide +kernel
theorem dX10_loose_39 : decode cX10_loose 39 = .ok (.aload_n 0, 1) := by decide +kernel
theorem dX10_loose_40 : decode cX10_loose 40 = .ok (.getfield 29, 3) := by decide +kernel
theorem dX10_loose_43 : decode cX10_loose 43 = .ok (.invokevirtual 260, 3) := by decide +kernel
theorem dX10_loose_46 : decode cX10_loose 46 = .ok (.ireturn, 1) := by decide +kernel
theorem dX10_loose_47 : decode cX10_loose 47 = .ok (.ldc 86, 2) := by decide +kernel
theorem dX10_loose_49 : decode cX10_loose 49 = .ok (.ireturn, 1) := by decide +kernel
theorem dX10_felt_0 : decode cX10_felt 0 = .ok (.iload_n 1, 1) := by decide +kernel
theorem dX10_felt_1 : decode cX10_felt 1 = .ok (.ifCond .lt 19, 3) := by decide +kernel
theorem dX10_felt_4 : decode cX10_felt 4 = .ok (.iload_n 1, 1) := by decide +kernel
theorem dX10_felt_5 : decode cX10_felt 5 = .ok (.bipush 99, 2) := by decide +kernel
theorem dX10_felt_7 : decode cX10_felt 7 = .ok (.if_icmp .gt 13, 3) := by decide +kernel
theorem dX10_felt_10 : decode cX10_felt 10 = .ok (.iload_n 2, 1) := by decide +kernel
theorem dX10_felt_11 : decode cX10_felt 11 = .ok (.ifCond .lt 9, 3) := by decide +kernel
theorem dX10_felt_14 : decode cX10_felt 14 = .ok (.iload_n 2, 1) := by decide +kernel
theorem dX10_felt_15 : decode cX10_felt 15 = .ok (.bipush 7, 2) := by decide +kernel
theorem dX10_felt_17 : decode cX10_felt 17 = .ok (.if_icmp .le 6, 3) := by decide +kernel
theorem dX10_felt_20 : decode cX10_felt 20 = .ok (.ldc 86, 2) := by decide +kernel
theorem dX10_felt_22 : decode cX10_felt 22 = .ok (.ireturn, 1) := by decide +kernel
theorem dX10_felt_23 : decode cX10_felt 23 = .ok (.aload_n 0, 1) := by decide +kernel
theorem dX10_felt_24 : decode cX10_felt 24 = .ok (.getfield 29, 3) := by decide +kernel
theorem dX10_felt_27 : decode cX10_felt 27 = .ok (.aload_n 0, 1) := by decide +kernel
theorem dX10_felt_28 : decode cX10_felt 28 = .ok (.getfield 23, 3) := by decide +kernel
theorem dX10_felt_31 : decode cX10_felt 31 = .ok (.iload_n 1, 1) := by decide +kernel
theorem dX10_felt_32 : decode cX10_felt 32 = .ok (.iload_n 2, 1) := by decide +kernel
theorem dX10_felt_33 : decode cX10_felt 33 = .ok (.invokevirtual 263, 3) := by decide +kernel
theorem dX10_felt_36 : decode cX10_felt 36 = .ok (.ireturn, 1) := by decide +kernel
theorem dX10_farthest_0 : decode cX10_farthest 0 = .ok (.iload_n 1, 1) := by decide +kernel
theorem dX10_farthest_1 : decode cX10_farthest 1 = .ok (.ifCond .lt 9, 3) := by decide +kernel
theorem dX10_farthest_4 : decode cX10_farthest 4 = .ok (.iload_n 1, 1) := by decide +kernel
theorem dX10_farthest_5 : decode cX10_farthest 5 = .ok (.bipush 99, 2) := by decide +kernel
theorem dX10_farthest_7 : decode cX10_farthest 7 = .ok (.if_icmp .le 6, 3) := by decide +kernel
theorem dX10_farthest_10 : decode cX10_farthest 10 = .ok (.ldc 86, 2) := by decide +kernel
theorem dX10_farthest_12 : decode cX10_farthest 12 = .ok (.ireturn, 1) := by decide +kernel
theorem dX10_farthest_13 : decode cX10_farthest 13 = .ok (.iconst (-1), 1) := by decide +kernel
theorem dX10_farthest_14 : decode cX10_farthest 14 = .ok (.istore_n 2, 1) := by decide +kernel
theorem dX10_farthest_15 : decode cX10_farthest 15 = .ok (.iconst 0, 1) := by decide +kernel
theorem dX10_farthest_16 : decode cX10_farthest 16 = .ok (.istore_n 3, 1) := by decide +kernel
theorem dX10_farthest_17 : decode cX10_farthest 17 = .ok (.iload_n 3, 1) := by decide +kernel
theorem dX10_farthest_18 : decode cX10_farthest 18 = .ok (.aload_n 0, 1) := by decide +kernel
theorem dX10_farthest_19 : decode cX10_farthest 19 = .ok (.getfield 29, 3) := by decide +kernel
theorem dX10_farthest_22 : decode cX10_farthest 22 = .ok (.getfield 140, 3) := by decide +kernel
theorem dX10_farthest_25 : decode cX10_farthest 25 = .ok (.if_icmp .ge 28, 3) := by decide +kernel
theorem dX10_farthest_28 : decode cX10_farthest 28 = .ok (.aload_n 0, 1) := by decide +kernel
theorem dX10_farthest_29 : decode cX10_farthest 29 = .ok (.getfield 29, 3) := by decide +kernel
theorem dX10_farthest_32 : decode cX10_farthest 32 = .ok (.aload_n 0, 1) := by decide +kernel
theorem dX10_farthest_33 : decode cX10_farthest 33 = .ok (.getfield 23, 3) := by decide +kernel
theorem dX10_farthest_36 : decode cX10_farthest 36 = .ok (.iload_n 1, 1) := by decide +kernel
theorem dX10_farthest_37 : decode cX10_farthest 37 = .ok (.iload_n 3, 1) := by decide +kernel
theorem dX10_farthest_38 : decode cX10_farthest 38 = .ok (.invokevirtual 263, 3) := by decide +kernel
theorem dX10_farthest_41 : decode cX10_farthest 41 = .ok (.iconst 1, 1) := by decide +kernel
theorem dX10_farthest_42 : decode cX10_farthest 42 = .ok (.if_icmp .lt 5, 3) := by decide +kernel
theorem dX10_farthest_45 : decode cX10_farthest 45 = .ok (.iload_n 3, 1) := by decide +kernel
theorem dX10_farthest_46 : decode cX10_farthest 46 = .ok (.istore_n 2, 1) := by decide +kernel
theorem dX10_farthest_47 : decode cX10_farthest 47 = .ok (.iinc 3 1, 3) := by decide +kernel
theorem dX10_farthest_50 : decode cX10_farthest 50 = .ok (.goto (-33), 3) := by decide +kernel
theorem dX10_farthest_53 : decode cX10_farthest 53 = .ok (.iload_n 2, 1) := by decide +kernel
theorem dX10_farthest_54 : decode cX10_farthest 54 = .ok (.ireturn, 1) := by decide +kernel
theorem dX10_hooked_0 : decode cX10_hooked 0 = .ok (.iload_n 1, 1) := by decide +kernel
theorem dX10_hooked_1 : decode cX10_hooked 1 = .ok (.aload_n 0, 1) := by decide +kernel
theorem dX10_hooked_2 : decode cX10_hooked 2 = .ok (.getfield 23, 3) := by decide +kernel
theorem dX10_hooked_5 : decode cX10_hooked 5 = .ok (.invokevirtual 267, 3) := by decide +kernel
theorem dX10_hooked_8 : decode cX10_hooked 8 = .ok (.iconst (-1), 1) := by decide +kernel
theorem dX10_hooked_9 : decode cX10_hooked 9 = .ok (.ixor, 1) := by decide +kernel
theorem dX10_hooked_10 : decode cX10_hooked 10 = .ok (.iand, 1) := by decide +kernel
theorem dX10_hooked_11 : decode cX10_hooked 11 = .ok (.ifCond .eq 6, 3) := by decide +kernel
theorem dX10_hooked_14 : decode cX10_hooked 14 = .ok (.ldc 177, 2) := by decide +kernel
theorem dX10_hooked_16 : decode cX10_hooked 16 = .ok (.ireturn, 1) := by decide +kernel
theorem dX10_hooked_17 : decode cX10_hooked 17 = .ok (.iload_n 1, 1) := by decide +kernel
theorem dX10_hooked_18 : decode cX10_hooked 18 = .ok (.aload_n 0, 1) := by decide +kernel
theorem dX10_hooked_19 : decode cX10_hooked 19 = .ok (.getfield 29, 3) := by decide +kernel
theorem dX10_hooked_22 : decode cX10_hooked 22 = .ok (.invokevirtual 141, 3) := by decide +kernel
theorem dX10_hooked_25 : decode cX10_hooked 25 = .ok (.iconst (-1), 1) := by decide +kernel
theorem dX10_hooked_26 : decode cX10_hooked 26 = .ok (.ixor, 1) := by decide +kernel
theorem dX10_hooked_27 : decode cX10_hooked 27 = .ok (.iand, 1) := by decide +kernel
theorem dX10_hooked_28 : decode cX10_hooked 28 = .ok (.ifCond .eq 5, 3) := by decide +kernel
theorem dX10_hooked_31 : decode cX10_hooked 31 = .ok (.iconst (-1), 1) := by decide +kernel
theorem dX10_hooked_32 : decode cX10_hooked 32 = .ok (.ireturn, 1) := by decide +kernel
theorem dX10_hooked_33 : decode cX10_hooked 33 = .ok (.aload_n 0, 1) := by decide +kernel
theorem dX10_hooked_34 : decode cX10_hooked 34 = .ok (.getfield 23, 3) := by decide +kernel
theorem dX10_hooked_37 : decode cX10_hooked 37 = .ok (.aload_n 0, 1) := by decide +kernel
theorem dX10_hooked_38 : decode cX10_hooked 38 = .ok (.getfield 29, 3) := by decide +kernel
theorem dX10_hooked_41 : decode cX10_hooked 41 = .ok (.iload_n 1, 1) := by decide +kernel
theorem dX10_hooked_42 : decode cX10_hooked 42 = .ok (.invokevirtual 270, 3) := by decide +kernel
theorem dX10_hooked_45 : decode cX10_hooked 45 = .ok (.invokevirtual 273, 3) := by decide +kernel
theorem dX10_hooked_48 : decode cX10_hooked 48 = .ok (.ireturn, 1) := by decide +kernel
theorem dX10_gap_0 : decode cX10_gap 0 = .ok (.iload_n 1, 1) := by decide +kernel
theorem dX10_gap_1 : decode cX10_gap 1 = .ok (.ifCond .lt 14, 3) := by decide +kernel
theorem dX10_gap_4 : decode cX10_gap 4 = .ok (.iload_n 1, 1) := by decide +kernel
theorem dX10_gap_5 : decode cX10_gap 5 = .ok (.aload_n 0, 1) := by decide +kernel
theorem dX10_gap_6 : decode cX10_gap 6 = .ok (.getfield 29, 3) := by decide +kernel
theorem dX10_gap_9 : decode cX10_gap 9 = .ok (.getfield 140, 3) := by decide +kernel
theorem dX10_gap_12 : decode cX10_gap 12 = .ok (.if_icmp .le 6, 3) := by decide +kernel
theorem dX10_gap_15 : decode cX10_gap 15 = .ok (.ldc 86, 2) := by decide +kernel
theorem dX10_gap_17 : decode cX10_gap 17 = .ok (.ireturn, 1) := by decide +kernel
theorem dX10_gap_18 : decode cX10_gap 18 = .ok (.iload_n 1, 1) := by decide +kernel
theorem dX10_gap_19 : decode cX10_gap 19 = .ok (.ifCond .le 16, 3) := by decide +kernel
theorem dX10_gap_22 : decode cX10_gap 22 = .ok (.aload_n 0, 1) := by decide +kernel
theorem dX10_gap_23 : decode cX10_gap 23 = .ok (.getfield 29, 3) := by decide +kernel
theorem dX10_gap_26 : decode cX10_gap 26 = .ok (.iload_n 1, 1) := by decide +kernel
theorem dX10_gap_27 : decode cX10_gap 27 = .ok (.iconst 1, 1) := by decide +kernel
theorem dX10_gap_28 : decode cX10_gap 28 = .ok (.isub, 1) := by decide +kernel
theorem dX10_gap_29 : decode cX10_gap 29 = .ok (.invokevirtual 194, 3) := by decide +kernel
theorem dX10_gap_32 : decode cX10_gap 32 = .ok (.goto 4, 3) := by decide +kernel
theorem dX10_gap_35 : decode cX10_gap 35 = .ok (.iconst (-1), 1) := by decide +kernel
theorem dX10_gap_36 : decode cX10_gap 36 = .ok (.istore_n 2, 1) := by decide +kernel
theorem dX10_gap_37 : decode cX10_gap 37 = .ok (.iload_n 1, 1) := by decide +kernel
theorem dX10_gap_38 : decode cX10_gap 38 = .ok (.aload_n 0, 1) := by decide +kernel
theorem dX10_gap_39 : decode cX10_gap 39 = .ok (.getfield 29, 3) := by decide +kernel
theorem dX10_gap_42 : decode cX10_gap 42 = .ok (.getfield 140, 3) := by decide +kernel
theorem dX10_gap_45 : decode cX10_gap 45 = .ok (.if_icmp .ge 14, 3) := by decide +kernel
theorem dX10_gap_48 : decode cX10_gap 48 = .ok (.aload_n 0, 1) := by decide +kernel
theorem dX10_gap_49 : decode cX10_gap 49 = .ok (.getfield 29, 3) := by decide +kernel
theorem dX10_gap_52 : decode cX10_gap 52 = .ok (.iload_n 1, 1) := by decide +kernel
theorem dX10_gap_53 : decode cX10_gap 53 = .ok (.invokevirtual 194, 3) := by decide +kernel
theorem dX10_gap_56 : decode cX10_gap 56 = .ok (.goto 10, 3) := by decide +kernel
theorem dX10_gap_59 : decode cX10_gap 59 = .ok (.aload_n 0, 1) := by decide +kernel
theorem dX10_gap_60 : decode cX10_gap 60 = .ok (.getfield 23, 3) := by decide +kernel
theorem dX10_gap_63 : decode cX10_gap 63 = .ok (.getfield 119, 3) := by decide +kernel
theorem dX10_gap_66 : decode cX10_gap 66 = .ok (.istore_n 3, 1) := by decide +kernel
theorem dX10_gap_67 : decode cX10_gap 67 = .ok (.iconst 0, 1) := by decide +kernel
theorem dX10_gap_68 : decode cX10_gap 68 = .ok (.istore 4, 2) := by decide +kernel
theorem dX10_gap_70 : decode cX10_gap 70 = .ok (.iload_n 2, 1) := by decide +kernel
theorem dX10_gap_71 : decode cX10_gap 71 = .ok (.iconst 1, 1) := by decide +kernel
theorem dX10_gap_72 : decode cX10_gap 72 = .ok (.iadd, 1) := by decide +kernel
theorem dX10_gap_73 : decode cX10_gap 73 = .ok (.istore 5, 2) := by decide +kernel
theorem dX10_gap_75 : decode cX10_gap 75 = .ok (.iload 5, 2) := by decide +kernel
theorem dX10_gap_77 : decode cX10_gap 77 = .ok (.iload_n 3, 1) := by decide +kernel
theorem dX10_gap_78 : decode cX10_gap 78 = .ok (.if_icmp .ge 18, 3) := by decide +kernel
theorem dX10_gap_81 : decode cX10_gap 81 = .ok (.iload 4, 2) := by decide +kernel
theorem dX10_gap_83 : decode cX10_gap 83 = .ok (.iconst 1, 1) := by decide +kernel
theorem dX10_gap_84 : decode cX10_gap 84 = .ok (.iload 5, 2) := by decide +kernel
theorem dX10_gap_86 : decode cX10_gap 86 = .ok (.ishl, 1) := by decide +kernel
theorem dX10_gap_87 : decode cX10_gap 87 = .ok (.ior, 1) := by decide +kernel
theorem dX10_gap_88 : decode cX10_gap 88 = .ok (.istore 4, 2) := by decide +kernel
theorem dX10_gap_90 : decode cX10_gap 90 = .ok (.iinc 5 1, 3) := by decide +kernel
theorem dX10_gap_93 : decode cX10_gap 93 = .ok (.goto (-18), 3) := by decide +kernel
theorem dX10_gap_96 : decode cX10_gap 96 = .ok (.iload 4, 2) := by decide +kernel
theorem dX10_gap_98 : decode cX10_gap 98 = .ok (.aload_n 0, 1) := by decide +kernel
theorem dX10_gap_99 : decode cX10_gap 99 = .ok (.invokevirtual 276, 3) := by decide +kernel
theorem dX10_gap_102 : decode cX10_gap 102 = .ok (.iand, 1) := by decide +kernel
theorem dX10_gap_103 : decode cX10_gap 103 = .ok (.ireturn, 1) := by decide +kernel
theorem dX10_ends_0 : decode cX10_ends 0 = .ok (.iload_n 1, 1) := by decide +kernel
theorem dX10_ends_1 : decode cX10_ends 1 = .ok (.lookupswitch 63 #[(0, 27), (1, 47)], 27) := by decide +kernel
theorem dX10_ends_28 : decode cX10_ends 28 = .ok (.sipush 1000, 3) := by decide +kernel
theorem dX10_ends_31 : decode cX10_ends 31 = .ok (.aload_n 0, 1) := by decide +kernel
theorem dX10_ends_32 : decode cX10_ends 32 = .ok (.getfield 64, 3) := by decide +kernel
theorem dX10_ends_35 : decode cX10_ends 35 = .ok (.aload_n 0, 1) := by decide +kernel
theorem dX10_ends_36 : decode cX10_ends 36 = .ok (.getfield 23, 3) := by decide +kernel
theorem dX10_ends_39 : decode cX10_ends 39 = .ok (.aload_n 0, 1) := by decide +kernel
theorem dX10_ends_40 : decode cX10_ends 40 = .ok (.getfield 29, 3) := by decide +kernel
theorem dX10_ends_43 : decode cX10_ends 43 = .ok (.invokevirtual 279, 3) := by decide +kernel
theorem dX10_ends_46 : decode cX10_ends 46 = .ok (.iadd, 1) := by decide +kernel
theorem dX10_ends_47 : decode cX10_ends 47 = .ok (.ireturn, 1) := by decide +kernel
theorem dX10_ends_48 : decode cX10_ends 48 = .ok (.aload_n 0, 1) := by decide +kernel
theorem dX10_ends_49 : decode cX10_ends 49 = .ok (.getfield 64, 3) := by decide +kernel
theorem dX10_ends_52 : decode cX10_ends 52 = .ok (.aload_n 0, 1) := by decide +kernel
theorem dX10_ends_53 : decode cX10_ends 53 = .ok (.getfield 23, 3) := by decide +kernel
theorem dX10_ends_56 : decode cX10_ends 56 = .ok (.aload_n 0, 1) := by decide +kernel
theorem dX10_ends_57 : decode cX10_ends 57 = .ok (.getfield 29, 3) := by decide +kernel
theorem dX10_ends_60 : decode cX10_ends 60 = .ok (.invokevirtual 282, 3) := by decide +kernel
theorem dX10_ends_63 : decode cX10_ends 63 = .ok (.ireturn, 1) := by decide +kernel
theorem dX10_ends_64 : decode cX10_ends 64 = .ok (.ldc 86, 2) := by decide +kernel
theorem dX10_ends_66 : decode cX10_ends 66 = .ok (.ireturn, 1) := by decide +kernel
theorem dX10_calm_0 : decode cX10_calm 0 = .ok (.iload_n 1, 1) := by decide +kernel
theorem dX10_calm_1 : decode cX10_calm 1 = .ok (.ifCond .lt 19, 3) := by decide +kernel
theorem dX10_calm_4 : decode cX10_calm 4 = .ok (.iload_n 1, 1) := by decide +kernel
theorem dX10_calm_5 : decode cX10_calm 5 = .ok (.bipush 60, 2) := by decide +kernel
theorem dX10_calm_7 : decode cX10_calm 7 = .ok (.if_icmp .gt 13, 3) := by decide +kernel
theorem dX10_calm_10 : decode cX10_calm 10 = .ok (.iload_n 2, 1) := by decide +kernel
theorem dX10_calm_11 : decode cX10_calm 11 = .ok (.ifCond .lt 9, 3) := by decide +kernel
theorem dX10_calm_14 : decode cX10_calm 14 = .ok (.iload_n 2, 1) := by decide +kernel
theorem dX10_calm_15 : decode cX10_calm 15 = .ok (.bipush 100, 2) := by decide +kernel
theorem dX10_calm_17 : decode cX10_calm 17 = .ok (.if_icmp .le 6, 3) := by decide +kernel
theorem dX10_calm_20 : decode cX10_calm 20 = .ok (.ldc 86, 2) := by decide +kernel
theorem dX10_calm_22 : decode cX10_calm 22 = .ok (.ireturn, 1) := by decide +kernel
theorem dX10_calm_23 : decode cX10_calm 23 = .ok (.ldc2_w 285, 3) := by decide +kernel
theorem dX10_calm_26 : decode cX10_calm 26 = .ok (.lstore_n 3, 1) := by decide +kernel
theorem dX10_calm_27 : decode cX10_calm 27 = .ok (.iconst 0, 1) := by decide +kernel
theorem dX10_calm_28 : decode cX10_calm 28 = .ok (.istore 5, 2) := by decide +kernel
theorem dX10_calm_30 : decode cX10_calm 30 = .ok (.iload 5, 2) := by decide +kernel
theorem dX10_calm_32 : decode cX10_calm 32 = .ok (.iload_n 1, 1) := by decide +kernel
theorem dX10_calm_33 : decode cX10_calm 33 = .ok (.if_icmp .ge 18, 3) := by decide +kernel
theorem dX10_calm_36 : decode cX10_calm 36 = .ok (.lload_n 3, 1) := by decide +kernel
theorem dX10_calm_37 : decode cX10_calm 37 = .ok (.iload_n 2, 1) := by decide +kernel
theorem dX10_calm_38 : decode cX10_calm 38 = .ok (.i2l, 1) := by decide +kernel
theorem dX10_calm_39 : decode cX10_calm 39 = .ok (.lmul, 1) := by decide +kernel
theorem dX10_calm_40 : decode cX10_calm 40 = .ok (.ldc2_w 287, 3) := by decide +kernel
theorem dX10_calm_43 : decode cX10_calm 43 = .ok (.ldiv, 1) := by decide +kernel
theorem dX10_calm_44 : decode cX10_calm 44 = .ok (.lstore_n 3, 1) := by decide +kernel
theorem dX10_calm_45 : decode cX10_calm 45 = .ok (.iinc 5 1, 3) := by decide +kernel
theorem dX10_calm_48 : decode cX10_calm 48 = .ok (.goto (-18), 3) := by decide +kernel
theorem dX10_calm_51 : decode cX10_calm 51 = .ok (.lload_n 3, 1) := by decide +kernel
theorem dX10_calm_52 : decode cX10_calm 52 = .ok (.l2i, 1) := by decide +kernel
theorem dX10_calm_53 : decode cX10_calm 53 = .ok (.ireturn, 1) := by decide +kernel
theorem dX10_old_0 : decode cX10_old 0 = .ok (.iload_n 1, 1) := by decide +kernel
theorem dX10_old_1 : decode cX10_old 1 = .ok (.ifCond .ne 16, 3) := by decide +kernel
theorem dX10_old_4 : decode cX10_old 4 = .ok (.iload_n 2, 1) := by decide +kernel
theorem dX10_old_5 : decode cX10_old 5 = .ok (.ifCond .lt 12, 3) := by decide +kernel
theorem dX10_old_8 : decode cX10_old 8 = .ok (.iload_n 2, 1) := by decide +kernel
theorem dX10_old_9 : decode cX10_old 9 = .ok (.iconst 5, 1) := by decide +kernel
theorem dX10_old_10 : decode cX10_old 10 = .ok (.if_icmp .gt 7, 3) := by decide +kernel
theorem dX10_old_13 : decode cX10_old 13 = .ok (.iconst 1, 1) := by decide +kernel
theorem dX10_old_14 : decode cX10_old 14 = .ok (.goto 4, 3) := by decide +kernel
theorem dX10_old_17 : decode cX10_old 17 = .ok (.iconst 0, 1) := by decide +kernel
theorem dX10_old_18 : decode cX10_old 18 = .ok (.istore 4, 2) := by decide +kernel
theorem dX10_old_20 : decode cX10_old 20 = .ok (.iload_n 1, 1) := by decide +kernel
theorem dX10_old_21 : decode cX10_old 21 = .ok (.iconst 1, 1) := by decide +kernel
theorem dX10_old_22 : decode cX10_old 22 = .ok (.if_icmp .ne 18, 3) := by decide +kernel
theorem dX10_old_25 : decode cX10_old 25 = .ok (.iload_n 2, 1) := by decide +kernel
theorem dX10_old_26 : decode cX10_old 26 = .ok (.iconst 1, 1) := by decide +kernel
theorem dX10_old_27 : decode cX10_old 27 = .ok (.if_icmp .lt 13, 3) := by decide +kernel
theorem dX10_old_30 : decode cX10_old 30 = .ok (.iload_n 2, 1) := by decide +kernel
theorem dX10_old_31 : decode cX10_old 31 = .ok (.bipush 9, 2) := by decide +kernel
theorem dX10_old_33 : decode cX10_old 33 = .ok (.if_icmp .gt 7, 3) := by decide +kernel
theorem dX10_old_36 : decode cX10_old 36 = .ok (.iconst 1, 1) := by decide +kernel
theorem dX10_old_37 : decode cX10_old 37 = .ok (.goto 4, 3) := by decide +kernel
theorem dX10_old_40 : decode cX10_old 40 = .ok (.iconst 0, 1) := by decide +kernel
theorem dX10_old_41 : decode cX10_old 41 = .ok (.istore 5, 2) := by decide +kernel
theorem dX10_old_43 : decode cX10_old 43 = .ok (.iload 4, 2) := by decide +kernel
theorem dX10_old_45 : decode cX10_old 45 = .ok (.ifCond .ne 11, 3) := by decide +kernel
theorem dX10_old_48 : decode cX10_old 48 = .ok (.iload 5, 2) := by decide +kernel
theorem dX10_old_50 : decode cX10_old 50 = .ok (.ifCond .ne 6, 3) := by decide +kernel
theorem dX10_old_53 : decode cX10_old 53 = .ok (.ldc 86, 2) := by decide +kernel
theorem dX10_old_55 : decode cX10_old 55 = .ok (.ireturn, 1) := by decide +kernel
theorem dX10_old_56 : decode cX10_old 56 = .ok (.aload_n 0, 1) := by decide +kernel
theorem dX10_old_57 : decode cX10_old 57 = .ok (.getfield 71, 3) := by decide +kernel
theorem dX10_old_60 : decode cX10_old 60 = .ok (.getfield 111, 3) := by decide +kernel
theorem dX10_old_63 : decode cX10_old 63 = .ok (.bipush 6, 2) := by decide +kernel
theorem dX10_old_65 : decode cX10_old 65 = .ok (.if_icmp .lt 6, 3) := by decide +kernel
theorem dX10_old_68 : decode cX10_old 68 = .ok (.ldc 90, 2) := by decide +kernel
theorem dX10_old_70 : decode cX10_old 70 = .ok (.ireturn, 1) := by decide +kernel
theorem dX10_old_71 : decode cX10_old 71 = .ok (.aload_n 0, 1) := by decide +kernel
theorem dX10_old_72 : decode cX10_old 72 = .ok (.getfield 71, 3) := by decide +kernel
theorem dX10_old_75 : decode cX10_old 75 = .ok (.iload 5, 2) := by decide +kernel
theorem dX10_old_77 : decode cX10_old 77 = .ok (.ifCond .eq 10, 3) := by decide +kernel
theorem dX10_old_80 : decode cX10_old 80 = .ok (.bipush 10, 2) := by decide +kernel
theorem dX10_old_82 : decode cX10_old 82 = .ok (.iload_n 2, 1) := by decide +kernel
theorem dX10_old_83 : decode cX10_old 83 = .ok (.iadd, 1) := by decide +kernel
theorem dX10_old_84 : decode cX10_old 84 = .ok (.goto 4, 3) := by decide +kernel
theorem dX10_old_87 : decode cX10_old 87 = .ok (.iload_n 2, 1) := by decide +kernel
theorem dX10_old_88 : decode cX10_old 88 = .ok (.iload_n 3, 1) := by decide +kernel
theorem dX10_old_89 : decode cX10_old 89 = .ok (.invokevirtual 289, 3) := by decide +kernel
theorem dX10_old_92 : decode cX10_old 92 = .ok (.aload_n 0, 1) := by decide +kernel
theorem dX10_old_93 : decode cX10_old 93 = .ok (.getfield 71, 3) := by decide +kernel
theorem dX10_old_96 : decode cX10_old 96 = .ok (.getfield 111, 3) := by decide +kernel
theorem dX10_old_99 : decode cX10_old 99 = .ok (.ireturn, 1) := by decide +kernel
theorem dX10_couldBe_0 : decode cX10_couldBe 0 = .ok (.aload_n 0, 1) := by decide +kernel
theorem dX10_couldBe_1 : decode cX10_couldBe 1 = .ok (.getfield 71, 3) := by decide +kernel
theorem dX10_couldBe_4 : decode cX10_couldBe 4 = .ok (.aload_n 0, 1) := by decide +kernel
theorem dX10_couldBe_5 : decode cX10_couldBe 5 = .ok (.getfield 23, 3) := by decide +kernel
theorem dX10_couldBe_8 : decode cX10_couldBe 8 = .ok (.aload_n 0, 1) := by decide +kernel
theorem dX10_couldBe_9 : decode cX10_couldBe 9 = .ok (.invokevirtual 276, 3) := by decide +kernel
theorem dX10_couldBe_12 : decode cX10_couldBe 12 = .ok (.invokevirtual 293, 3) := by decide +kernel
theorem dX10_couldBe_15 : decode cX10_couldBe 15 = .ok (.ireturn, 1) := by decide +kernel
theorem dX10_next_0 : decode cX10_next 0 = .ok (.aload_n 0, 1) := by decide +kernel
theorem dX10_next_1 : decode cX10_next 1 = .ok (.getfield 71, 3) := by decide +kernel
theorem dX10_next_4 : decode cX10_next 4 = .ok (.aload_n 0, 1) := by decide +kernel
theorem dX10_next_5 : decode cX10_next 5 = .ok (.getfield 23, 3) := by decide +kernel
theorem dX10_next_8 : decode cX10_next 8 = .ok (.aload_n 0, 1) := by decide +kernel
theorem dX10_next_9 : decode cX10_next 9 = .ok (.getfield 71, 3) := by decide +kernel
theorem dX10_next_12 : decode cX10_next 12 = .ok (.aload_n 0, 1) := by decide +kernel
theorem dX10_next_13 : decode cX10_next 13 = .ok (.getfield 23, 3) := by decide +kernel
theorem dX10_next_16 : decode cX10_next 16 = .ok (.aload_n 0, 1) := by decide +kernel
theorem dX10_next_17 : decode cX10_next 17 = .ok (.invokevirtual 276, 3) := by decide +kernel
theorem dX10_next_20 : decode cX10_next 20 = .ok (.invokevirtual 293, 3) := by decide +kernel
theorem dX10_next_23 : decode cX10_next 23 = .ok (.invokevirtual 297, 3) := by decide +kernel
theorem dX10_next_26 : decode cX10_next 26 = .ok (.ireturn, 1) := by decide +kernel
theorem dX10_write_0 : decode cX10_write 0 = .ok (.iload_n 2, 1) := by decide +kernel
theorem dX10_write_1 : decode cX10_write 1 = .ok (.iconst (-1), 1) := by decide +kernel
theorem dX10_write_2 : decode cX10_write 2 = .ok (.if_icmp .eq 17, 3) := by decide +kernel
theorem dX10_write_5 : decode cX10_write 5 = .ok (.aload_n 0, 1) := by decide +kernel
theorem dX10_write_6 : decode cX10_write 6 = .ok (.getfield 23, 3) := by decide +kernel
theorem dX10_write_9 : decode cX10_write 9 = .ok (.iload_n 2, 1) := by decide +kernel
theorem dX10_write_10 : decode cX10_write 10 = .ok (.invokevirtual 173, 3) := by decide +kernel
theorem dX10_write_13 : decode cX10_write 13 = .ok (.ifCond .ne 6, 3) := by decide +kernel
theorem dX10_write_16 : decode cX10_write 16 = .ok (.ldc 177, 2) := by decide +kernel
theorem dX10_write_18 : decode cX10_write 18 = .ok (.ireturn, 1) := by decide +kernel
theorem dX10_write_19 : decode cX10_write 19 = .ok (.iload_n 1, 1) := by decide +kernel
theorem dX10_write_20 : decode cX10_write 20 = .ok (.ifCond .lt 9, 3) := by decide +kernel
theorem dX10_write_23 : decode cX10_write 23 = .ok (.iload_n 1, 1) := by decide +kernel
theorem dX10_write_24 : decode cX10_write 24 = .ok (.bipush 6, 2) := by decide +kernel
theorem dX10_write_26 : decode cX10_write 26 = .ok (.if_icmp .le 6, 3) := by decide +kernel
theorem dX10_write_29 : decode cX10_write 29 = .ok (.ldc 86, 2) := by decide +kernel
theorem dX10_write_31 : decode cX10_write 31 = .ok (.ireturn, 1) := by decide +kernel
theorem dX10_write_32 : decode cX10_write 32 = .ok (.aload_n 0, 1) := by decide +kernel
theorem dX10_write_33 : decode cX10_write 33 = .ok (.getfield 78, 3) := by decide +kernel
theorem dX10_write_36 : decode cX10_write 36 = .ok (.getfield 114, 3) := by decide +kernel
theorem dX10_write_39 : decode cX10_write 39 = .ok (.bipush 20, 2) := by decide +kernel
theorem dX10_write_41 : decode cX10_write 41 = .ok (.if_icmp .lt 6, 3) := by decide +kernel
theorem dX10_write_44 : decode cX10_write 44 = .ok (.ldc 90, 2) := by decide +kernel
theorem dX10_write_46 : decode cX10_write 46 = .ok (.ireturn, 1) := by decide +kernel
theorem dX10_write_47 : decode cX10_write 47 = .ok (.aload_n 0, 1) := by decide +kernel
theorem dX10_write_48 : decode cX10_write 48 = .ok (.getfield 78, 3) := by decide +kernel
theorem dX10_write_51 : decode cX10_write 51 = .ok (.iload_n 1, 1) := by decide +kernel
theorem dX10_write_52 : decode cX10_write 52 = .ok (.iload_n 2, 1) := by decide +kernel
theorem dX10_write_53 : decode cX10_write 53 = .ok (.invokevirtual 300, 3) := by decide +kernel
theorem dX10_write_56 : decode cX10_write 56 = .ok (.aload_n 0, 1) := by decide +kernel
theorem dX10_write_57 : decode cX10_write 57 = .ok (.getfield 78, 3) := by decide +kernel
theorem dX10_write_60 : decode cX10_write 60 = .ok (.getfield 114, 3) := by decide +kernel
theorem dX10_write_63 : decode cX10_write 63 = .ok (.ireturn, 1) := by decide +kernel
theorem dX10_judge_0 : decode cX10_judge 0 = .ok (.aload_n 0, 1) := by decide +kernel
theorem dX10_judge_1 : decode cX10_judge 1 = .ok (.getfield 78, 3) := by decide +kernel
theorem dX10_judge_4 : decode cX10_judge 4 = .ok (.aload_n 0, 1) := by decide +kernel
theorem dX10_judge_5 : decode cX10_judge 5 = .ok (.getfield 29, 3) := by decide +kernel
theorem dX10_judge_8 : decode cX10_judge 8 = .ok (.invokevirtual 302, 3) := by decide +kernel
theorem dX10_judge_11 : decode cX10_judge 11 = .ok (.ireturn, 1) := by decide +kernel
theorem dX10_tear_0 : decode cX10_tear 0 = .ok (.aload_n 0, 1) := by decide +kernel
theorem dX10_tear_1 : decode cX10_tear 1 = .ok (.getfield 71, 3) := by decide +kernel
theorem dX10_tear_4 : decode cX10_tear 4 = .ok (.getfield 111, 3) := by decide +kernel
theorem dX10_tear_7 : decode cX10_tear 7 = .ok (.aload_n 0, 1) := by decide +kernel
theorem dX10_tear_8 : decode cX10_tear 8 = .ok (.getfield 78, 3) := by decide +kernel
theorem dX10_tear_11 : decode cX10_tear 11 = .ok (.getfield 114, 3) := by decide +kernel
theorem dX10_tear_14 : decode cX10_tear 14 = .ok (.iadd, 1) := by decide +kernel
theorem dX10_tear_15 : decode cX10_tear 15 = .ok (.istore_n 1, 1) := by decide +kernel
theorem dX10_tear_16 : decode cX10_tear 16 = .ok (.aload_n 0, 1) := by decide +kernel
theorem dX10_tear_17 : decode cX10_tear 17 = .ok (.getfield 71, 3) := by decide +kernel
theorem dX10_tear_20 : decode cX10_tear 20 = .ok (.iconst 0, 1) := by decide +kernel
theorem dX10_tear_21 : decode cX10_tear 21 = .ok (.putfield 111, 3) := by decide +kernel
theorem dX10_tear_24 : decode cX10_tear 24 = .ok (.aload_n 0, 1) := by decide +kernel
theorem dX10_tear_25 : decode cX10_tear 25 = .ok (.getfield 78, 3) := by decide +kernel
theorem dX10_tear_28 : decode cX10_tear 28 = .ok (.iconst 0, 1) := by decide +kernel
theorem dX10_tear_29 : decode cX10_tear 29 = .ok (.putfield 114, 3) := by decide +kernel
theorem dX10_tear_32 : decode cX10_tear 32 = .ok (.iload_n 1, 1) := by decide +kernel
theorem dX10_tear_33 : decode cX10_tear 33 = .ok (.ireturn, 1) := by decide +kernel
theorem dX10_seed_0 : decode cX10_seed 0 = .ok (.iload_n 1, 1) := by decide +kernel
theorem dX10_seed_1 : decode cX10_seed 1 = .ok (.ifCond .ge 6, 3) := by decide +kernel
theorem dX10_seed_4 : decode cX10_seed 4 = .ok (.ldc 86, 2) := by decide +kernel
theorem dX10_seed_6 : decode cX10_seed 6 = .ok (.ireturn, 1) := by decide +kernel
theorem dX10_seed_7 : decode cX10_seed 7 = .ok (.aload_n 0, 1) := by decide +kernel
theorem dX10_seed_8 : decode cX10_seed 8 = .ok (.getfield 82, 3) := by decide +kernel
theorem dX10_seed_11 : decode cX10_seed 11 = .ok (.istore_n 2, 1) := by decide +kernel
theorem dX10_seed_12 : decode cX10_seed 12 = .ok (.aload_n 0, 1) := by decide +kernel
theorem dX10_seed_13 : decode cX10_seed 13 = .ok (.iload_n 1, 1) := by decide +kernel
theorem dX10_seed_14 : decode cX10_seed 14 = .ok (.putfield 82, 3) := by decide +kernel
theorem dX10_seed_17 : decode cX10_seed 17 = .ok (.iload_n 2, 1) := by decide +kernel
theorem dX10_seed_18 : decode cX10_seed 18 = .ok (.ireturn, 1) := by decide +kernel
theorem dX10_keep_0 : decode cX10_keep 0 = .ok (.iload_n 1, 1) := by decide +kernel
theorem dX10_keep_1 : decode cX10_keep 1 = .ok (.ifCond .lt 8, 3) := by decide +kernel
theorem dX10_keep_4 : decode cX10_keep 4 = .ok (.iload_n 1, 1) := by decide +kernel
theorem dX10_keep_5 : decode cX10_keep 5 = .ok (.iconst 2, 1) := by decide +kernel
theorem dX10_keep_6 : decode cX10_keep 6 = .ok (.if_icmp .lt 6, 3) := by decide +kernel
theorem dX10_keep_9 : decode cX10_keep 9 = .ok (.ldc 177, 2) := by decide +kernel
theorem dX10_keep_11 : decode cX10_keep 11 = .ok (.ireturn, 1) := by decide +kernel
theorem dX10_keep_12 : decode cX10_keep 12 = .ok (.aload_n 0, 1) := by decide +kernel
theorem dX10_keep_13 : decode cX10_keep 13 = .ok (.getfield 43, 3) := by decide +kernel
theorem dX10_keep_16 : decode cX10_keep 16 = .ok (.iload_n 1, 1) := by decide +kernel
theorem dX10_keep_17 : decode cX10_keep 17 = .ok (.aaload, 1) := by decide +kernel
theorem dX10_keep_18 : decode cX10_keep 18 = .ok (.iconst 1, 1) := by decide +kernel
theorem dX10_keep_19 : decode cX10_keep 19 = .ok (.putfield 115, 3) := by decide +kernel
theorem dX10_keep_22 : decode cX10_keep 22 = .ok (.aload_n 0, 1) := by decide +kernel
theorem dX10_keep_23 : decode cX10_keep 23 = .ok (.getfield 43, 3) := by decide +kernel
theorem dX10_keep_26 : decode cX10_keep 26 = .ok (.iload_n 1, 1) := by decide +kernel
theorem dX10_keep_27 : decode cX10_keep 27 = .ok (.aaload, 1) := by decide +kernel
theorem dX10_keep_28 : decode cX10_keep 28 = .ok (.aload_n 0, 1) := by decide +kernel
theorem dX10_keep_29 : decode cX10_keep 29 = .ok (.getfield 82, 3) := by decide +kernel
theorem dX10_keep_32 : decode cX10_keep 32 = .ok (.putfield 305, 3) := by decide +kernel
theorem dX10_keep_35 : decode cX10_keep 35 = .ok (.aload_n 0, 1) := by decide +kernel
theorem dX10_keep_36 : decode cX10_keep 36 = .ok (.getfield 43, 3) := by decide +kernel
theorem dX10_keep_39 : decode cX10_keep 39 = .ok (.iload_n 1, 1) := by decide +kernel
theorem dX10_keep_40 : decode cX10_keep 40 = .ok (.aaload, 1) := by decide +kernel
theorem dX10_keep_41 : decode cX10_keep 41 = .ok (.getfield 308, 3) := by decide +kernel
theorem dX10_keep_44 : decode cX10_keep 44 = .ok (.aload_n 0, 1) := by decide +kernel
theorem dX10_keep_45 : decode cX10_keep 45 = .ok (.getfield 29, 3) := by decide +kernel
theorem dX10_keep_48 : decode cX10_keep 48 = .ok (.invokevirtual 311, 3) := by decide +kernel
theorem dX10_keep_51 : decode cX10_keep 51 = .ok (.aload_n 0, 1) := by decide +kernel
theorem dX10_keep_52 : decode cX10_keep 52 = .ok (.getfield 36, 3) := by decide +kernel
theorem dX10_keep_55 : decode cX10_keep 55 = .ok (.invokevirtual 108, 3) := by decide +kernel
theorem dX10_keep_58 : decode cX10_keep 58 = .ok (.iconst 1, 1) := by decide +kernel
theorem dX10_keep_59 : decode cX10_keep 59 = .ok (.ireturn, 1) := by decide +kernel
theorem dX10_goBack_0 : decode cX10_goBack 0 = .ok (.iload_n 1, 1) := by decide +kernel
theorem dX10_goBack_1 : decode cX10_goBack 1 = .ok (.ifCond .lt 8, 3) := by decide +kernel
theorem dX10_goBack_4 : decode cX10_goBack 4 = .ok (.iload_n 1, 1) := by decide +kernel
theorem dX10_goBack_5 : decode cX10_goBack 5 = .ok (.iconst 2, 1) := by decide +kernel
theorem dX10_goBack_6 : decode cX10_goBack 6 = .ok (.if_icmp .lt 6, 3) := by decide +kernel
theorem dX10_goBack_9 : decode cX10_goBack 9 = .ok (.ldc 177, 2) := by decide +kernel
theorem dX10_goBack_11 : decode cX10_goBack 11 = .ok (.ireturn, 1) := by decide +kernel
theorem dX10_goBack_12 : decode cX10_goBack 12 = .ok (.aload_n 0, 1) := by decide +kernel
theorem dX10_goBack_13 : decode cX10_goBack 13 = .ok (.getfield 43, 3) := by decide +kernel
theorem dX10_goBack_16 : decode cX10_goBack 16 = .ok (.iload_n 1, 1) := by decide +kernel
theorem dX10_goBack_17 : decode cX10_goBack 17 = .ok (.aaload, 1) := by decide +kernel
theorem dX10_goBack_18 : decode cX10_goBack 18 = .ok (.getfield 115, 3) := by decide +kernel
theorem dX10_goBack_21 : decode cX10_goBack 21 = .ok (.ifCond .ne 6, 3) := by decide +kernel
theorem dX10_goBack_24 : decode cX10_goBack 24 = .ok (.ldc 227, 2) := by decide +kernel
theorem dX10_goBack_26 : decode cX10_goBack 26 = .ok (.ireturn, 1) := by decide +kernel
theorem dX10_goBack_27 : decode cX10_goBack 27 = .ok (.aload_n 0, 1) := by decide +kernel
theorem dX10_goBack_28 : decode cX10_goBack 28 = .ok (.aload_n 0, 1) := by decide +kernel
theorem dX10_goBack_29 : decode cX10_goBack 29 = .ok (.getfield 43, 3) := by decide +kernel
theorem dX10_goBack_32 : decode cX10_goBack 32 = .ok (.iload_n 1, 1) := by decide +kernel
theorem dX10_goBack_33 : decode cX10_goBack 33 = .ok (.aaload, 1) := by decide +kernel
theorem dX10_goBack_34 : decode cX10_goBack 34 = .ok (.getfield 305, 3) := by decide +kernel
theorem dX10_goBack_37 : decode cX10_goBack 37 = .ok (.putfield 82, 3) := by decide +kernel
theorem dX10_goBack_40 : decode cX10_goBack 40 = .ok (.aload_n 0, 1) := by decide +kernel
theorem dX10_goBack_41 : decode cX10_goBack 41 = .ok (.getfield 29, 3) := by decide +kernel
theorem dX10_goBack_44 : decode cX10_goBack 44 = .ok (.aload_n 0, 1) := by decide +kernel
theorem dX10_goBack_45 : decode cX10_goBack 45 = .ok (.getfield 43, 3) := by decide +kernel
theorem dX10_goBack_48 : decode cX10_goBack 48 = .ok (.iload_n 1, 1) := by decide +kernel
theorem dX10_goBack_49 : decode cX10_goBack 49 = .ok (.aaload, 1) := by decide +kernel
theorem dX10_goBack_50 : decode cX10_goBack 50 = .ok (.getfield 308, 3) := by decide +kernel
theorem dX10_goBack_53 : decode cX10_goBack 53 = .ok (.invokevirtual 311, 3) := by decide +kernel
theorem dX10_goBack_56 : decode cX10_goBack 56 = .ok (.aload_n 0, 1) := by decide +kernel
theorem dX10_goBack_57 : decode cX10_goBack 57 = .ok (.getfield 36, 3) := by decide +kernel
theorem dX10_goBack_60 : decode cX10_goBack 60 = .ok (.invokevirtual 108, 3) := by decide +kernel
theorem dX10_goBack_63 : decode cX10_goBack 63 = .ok (.iconst 1, 1) := by decide +kernel
theorem dX10_goBack_64 : decode cX10_goBack 64 = .ok (.ireturn, 1) := by decide +kernel
theorem dX10_offSet_0 : decode cX10_offSet 0 = .ok (.aload_n 0, 1) := by decide +kernel
theorem dX10_offSet_1 : decode cX10_offSet 1 = .ok (.getfield 23, 3) := by decide +kernel
theorem dX10_offSet_4 : decode cX10_offSet 4 = .ok (.invokevirtual 267, 3) := by decide +kernel
theorem dX10_offSet_7 : decode cX10_offSet 7 = .ok (.aload_n 0, 1) := by decide +kernel
theorem dX10_offSet_8 : decode cX10_offSet 8 = .ok (.getfield 29, 3) := by decide +kernel
theorem dX10_offSet_11 : decode cX10_offSet 11 = .ok (.invokevirtual 141, 3) := by decide +kernel
theorem dX10_offSet_14 : decode cX10_offSet 14 = .ok (.iconst (-1), 1) := by decide +kernel
theorem dX10_offSet_15 : decode cX10_offSet 15 = .ok (.ixor, 1) := by decide +kernel
theorem dX10_offSet_16 : decode cX10_offSet 16 = .ok (.iand, 1) := by decide +kernel
theorem dX10_offSet_17 : decode cX10_offSet 17 = .ok (.ireturn, 1) := by decide +kernel
theorem dX10_yearsRefused_0 : decode cX10_yearsRefused 0 = .ok (.iload_n 1, 1) := by decide +kernel
theorem dX10_yearsRefused_1 : decode cX10_yearsRefused 1 = .ok (.iconst 1, 1) := by decide +kernel
theorem dX10_yearsRefused_2 : decode cX10_yearsRefused 2 = .ok (.if_icmp .lt 9, 3) := by decide +kernel
theorem dX10_yearsRefused_5 : decode cX10_yearsRefused 5 = .ok (.iload_n 1, 1) := by decide +kernel
theorem dX10_yearsRefused_6 : decode cX10_yearsRefused 6 = .ok (.bipush 20, 2) := by decide +kernel
theorem dX10_yearsRefused_8 : decode cX10_yearsRefused 8 = .ok (.if_icmp .le 6, 3) := by decide +kernel
theorem dX10_yearsRefused_11 : decode cX10_yearsRefused 11 = .ok (.ldc 86, 2) := by decide +kernel
theorem dX10_yearsRefused_13 : decode cX10_yearsRefused 13 = .ok (.ireturn, 1) := by decide +kernel
theorem dX10_yearsRefused_14 : decode cX10_yearsRefused 14 = .ok (.aload_n 0, 1) := by decide +kernel
theorem dX10_yearsRefused_15 : decode cX10_yearsRefused 15 = .ok (.getfield 23, 3) := by decide +kernel
theorem dX10_yearsRefused_18 : decode cX10_yearsRefused 18 = .ok (.getfield 125, 3) := by decide +kernel
theorem dX10_yearsRefused_21 : decode cX10_yearsRefused 21 = .ok (.ifCond .ne 6, 3) := by decide +kernel
theorem dX10_yearsRefused_24 : decode cX10_yearsRefused 24 = .ok (.ldc 227, 2) := by decide +kernel
theorem dX10_yearsRefused_26 : decode cX10_yearsRefused 26 = .ok (.ireturn, 1) := by decide +kernel
theorem dX10_yearsRefused_27 : decode cX10_yearsRefused 27 = .ok (.aload_n 0, 1) := by decide +kernel
theorem dX10_yearsRefused_28 : decode cX10_yearsRefused 28 = .ok (.getfield 29, 3) := by decide +kernel
theorem dX10_yearsRefused_31 : decode cX10_yearsRefused 31 = .ok (.getfield 134, 3) := by decide +kernel
theorem dX10_yearsRefused_34 : decode cX10_yearsRefused 34 = .ok (.sipush 9000, 3) := by decide +kernel
theorem dX10_yearsRefused_37 : decode cX10_yearsRefused 37 = .ok (.if_icmp .le 8, 3) := by decide +kernel
theorem dX10_yearsRefused_40 : decode cX10_yearsRefused 40 = .ok (.ldc 90, 2) := by decide +kernel
theorem dX10_yearsRefused_42 : decode cX10_yearsRefused 42 = .ok (.goto 4, 3) := by decide +kernel
theorem dX10_yearsRefused_45 : decode cX10_yearsRefused 45 = .ok (.iconst 0, 1) := by decide +kernel
theorem dX10_yearsRefused_46 : decode cX10_yearsRefused 46 = .ok (.ireturn, 1) := by decide +kernel
theorem dX10_draw_0 : decode cX10_draw 0 = .ok (.aload_n 0, 1) := by decide +kernel
theorem dX10_draw_1 : decode cX10_draw 1 = .ok (.aload_n 0, 1) := by decide +kernel
theorem dX10_draw_2 : decode cX10_draw 2 = .ok (.getfield 82, 3) := by decide +kernel
theorem dX10_draw_5 : decode cX10_draw 5 = .ok (.i2l, 1) := by decide +kernel
theorem dX10_draw_6 : decode cX10_draw 6 = .ok (.ldc2_w 313, 3) := by decide +kernel
theorem dX10_draw_9 : decode cX10_draw 9 = .ok (.lmul, 1) := by decide +kernel
theorem dX10_draw_10 : decode cX10_draw 10 = .ok (.ldc2_w 315, 3) := by decide +kernel
theorem dX10_draw_13 : decode cX10_draw 13 = .ok (.ladd, 1) := by decide +kernel
theorem dX10_draw_14 : decode cX10_draw 14 = .ok (.ldc2_w 317, 3) := by decide +kernel
theorem dX10_draw_17 : decode cX10_draw 17 = .ok (.land, 1) := by decide +kernel
theorem dX10_draw_18 : decode cX10_draw 18 = .ok (.l2i, 1) := by decide +kernel
theorem dX10_draw_19 : decode cX10_draw 19 = .ok (.putfield 82, 3) := by decide +kernel
theorem dX10_draw_22 : decode cX10_draw 22 = .ok (.iload_n 1, 1) := by decide +kernel
theorem dX10_draw_23 : decode cX10_draw 23 = .ok (.ifCond .le 16, 3) := by decide +kernel
theorem dX10_draw_26 : decode cX10_draw 26 = .ok (.aload_n 0, 1) := by decide +kernel
theorem dX10_draw_27 : decode cX10_draw 27 = .ok (.getfield 82, 3) := by decide +kernel
theorem dX10_draw_30 : decode cX10_draw 30 = .ok (.ldc_w 319, 3) := by decide +kernel
theorem dX10_draw_33 : decode cX10_draw 33 = .ok (.idiv, 1) := by decide +kernel
theorem dX10_draw_34 : decode cX10_draw 34 = .ok (.iload_n 1, 1) := by decide +kernel
theorem dX10_draw_35 : decode cX10_draw 35 = .ok (.irem, 1) := by decide +kernel
theorem dX10_draw_36 : decode cX10_draw 36 = .ok (.goto 4, 3) := by decide +kernel
theorem dX10_draw_39 : decode cX10_draw 39 = .ok (.iconst 0, 1) := by decide +kernel
theorem dX10_draw_40 : decode cX10_draw 40 = .ok (.ireturn, 1) := by decide +kernel
theorem dX10_chance_0 : decode cX10_chance 0 = .ok (.aload_n 0, 1) := by decide +kernel
theorem dX10_chance_1 : decode cX10_chance 1 = .ok (.bipush 6, 2) := by decide +kernel
theorem dX10_chance_3 : decode cX10_chance 3 = .ok (.invokevirtual 320, 3) := by decide +kernel
theorem dX10_chance_6 : decode cX10_chance 6 = .ok (.istore_n 1, 1) := by decide +kernel
theorem dX10_chance_7 : decode cX10_chance 7 = .ok (.iload_n 1, 1) := by decide +kernel
theorem dX10_chance_8 : decode cX10_chance 8 = .ok (.ifCond .ne 19, 3) := by decide +kernel
theorem dX10_chance_11 : decode cX10_chance 11 = .ok (.aload_n 0, 1) := by decide +kernel
theorem dX10_chance_12 : decode cX10_chance 12 = .ok (.getfield 29, 3) := by decide +kernel
theorem dX10_chance_15 : decode cX10_chance 15 = .ok (.aload_n 0, 1) := by decide +kernel
theorem dX10_chance_16 : decode cX10_chance 16 = .ok (.bipush 10, 2) := by decide +kernel
theorem dX10_chance_18 : decode cX10_chance 18 = .ok (.invokevirtual 320, 3) := by decide +kernel
theorem dX10_chance_21 : decode cX10_chance 21 = .ok (.putfield 137, 3) := by decide +kernel
theorem dX10_chance_24 : decode cX10_chance 24 = .ok (.goto 96, 3) := by decide +kernel
theorem dX10_chance_27 : decode cX10_chance 27 = .ok (.iload_n 1, 1) := by decide +kernel
theorem dX10_chance_28 : decode cX10_chance 28 = .ok (.iconst 1, 1) := by decide +kernel
theorem dX10_chance_29 : decode cX10_chance 29 = .ok (.if_icmp .ne 20, 3) := by decide +kernel
theorem dX10_chance_32 : decode cX10_chance 32 = .ok (.aload_n 0, 1) := by decide +kernel
theorem dX10_chance_33 : decode cX10_chance 33 = .ok (.getfield 29, 3) := by decide +kernel
theorem dX10_chance_36 : decode cX10_chance 36 = .ok (.aload_n 0, 1) := by decide +kernel
theorem dX10_chance_37 : decode cX10_chance 37 = .ok (.getfield 29, 3) := by decide +kernel
theorem dX10_chance_40 : decode cX10_chance 40 = .ok (.invokevirtual 141, 3) := by decide +kernel
theorem dX10_chance_43 : decode cX10_chance 43 = .ok (.putfield 149, 3) := by decide +kernel
theorem dX10_chance_46 : decode cX10_chance 46 = .ok (.goto 74, 3) := by decide +kernel
theorem dX10_chance_49 : decode cX10_chance 49 = .ok (.iload_n 1, 1) := by decide +kernel
theorem dX10_chance_50 : decode cX10_chance 50 = .ok (.iconst 2, 1) := by decide +kernel
theorem dX10_chance_51 : decode cX10_chance 51 = .ok (.if_icmp .ne 35, 3) := by decide +kernel
theorem dX10_chance_54 : decode cX10_chance 54 = .ok (.aload_n 0, 1) := by decide +kernel
theorem dX10_chance_55 : decode cX10_chance 55 = .ok (.getfield 29, 3) := by decide +kernel
theorem dX10_chance_58 : decode cX10_chance 58 = .ok (.getfield 140, 3) := by decide +kernel
theorem dX10_chance_61 : decode cX10_chance 61 = .ok (.iconst 2, 1) := by decide +kernel
theorem dX10_chance_62 : decode cX10_chance 62 = .ok (.if_icmp .lt 24, 3) := by decide +kernel
theorem dX10_chance_65 : decode cX10_chance 65 = .ok (.aload_n 0, 1) := by decide +kernel
theorem dX10_chance_66 : decode cX10_chance 66 = .ok (.getfield 29, 3) := by decide +kernel
theorem dX10_chance_69 : decode cX10_chance 69 = .ok (.aload_n 0, 1) := by decide +kernel
theorem dX10_chance_70 : decode cX10_chance 70 = .ok (.aload_n 0, 1) := by decide +kernel
theorem dX10_chance_71 : decode cX10_chance 71 = .ok (.getfield 29, 3) := by decide +kernel
theorem dX10_chance_74 : decode cX10_chance 74 = .ok (.getfield 140, 3) := by decide +kernel
theorem dX10_chance_77 : decode cX10_chance 77 = .ok (.invokevirtual 320, 3) := by decide +kernel
theorem dX10_chance_80 : decode cX10_chance 80 = .ok (.invokevirtual 224, 3) := by decide +kernel
theorem dX10_chance_83 : decode cX10_chance 83 = .ok (.goto 37, 3) := by decide +kernel
theorem dX10_chance_86 : decode cX10_chance 86 = .ok (.iload_n 1, 1) := by decide +kernel
theorem dX10_chance_87 : decode cX10_chance 87 = .ok (.iconst 3, 1) := by decide +kernel
theorem dX10_chance_88 : decode cX10_chance 88 = .ok (.if_icmp .ne 32, 3) := by decide +kernel
theorem dX10_chance_91 : decode cX10_chance 91 = .ok (.aload_n 0, 1) := by decide +kernel
theorem dX10_chance_92 : decode cX10_chance 92 = .ok (.getfield 29, 3) := by decide +kernel
theorem dX10_chance_95 : decode cX10_chance 95 = .ok (.getfield 140, 3) := by decide +kernel
theorem dX10_chance_98 : decode cX10_chance 98 = .ok (.iconst 1, 1) := by decide +kernel
theorem dX10_chance_99 : decode cX10_chance 99 = .ok (.if_icmp .lt 21, 3) := by decide +kernel
theorem dX10_chance_102 : decode cX10_chance 102 = .ok (.aload_n 0, 1) := by decide +kernel
theorem dX10_chance_103 : decode cX10_chance 103 = .ok (.getfield 29, 3) := by decide +kernel
theorem dX10_chance_106 : decode cX10_chance 106 = .ok (.aload_n 0, 1) := by decide +kernel
theorem dX10_chance_107 : decode cX10_chance 107 = .ok (.aload_n 0, 1) := by decide +kernel
theorem dX10_chance_108 : decode cX10_chance 108 = .ok (.getfield 29, 3) := by decide +kernel
theorem dX10_chance_111 : decode cX10_chance 111 = .ok (.getfield 140, 3) := by decide +kernel
theorem dX10_chance_114 : decode cX10_chance 114 = .ok (.invokevirtual 320, 3) := by decide +kernel
theorem dX10_chance_117 : decode cX10_chance 117 = .ok (.invokevirtual 228, 3) := by decide +kernel
theorem dX10_chance_120 : decode cX10_chance 120 = .ok (.return_, 1) := by decide +kernel
theorem dX10_hasBit_0 : decode cX10_hasBit 0 = .ok (.iload_n 0, 1) := by decide +kernel
theorem dX10_hasBit_1 : decode cX10_hasBit 1 = .ok (.iload_n 1, 1) := by decide +kernel
theorem dX10_hasBit_2 : decode cX10_hasBit 2 = .ok (.ishr, 1) := by decide +kernel
theorem dX10_hasBit_3 : decode cX10_hasBit 3 = .ok (.iconst 1, 1) := by decide +kernel
theorem dX10_hasBit_4 : decode cX10_hasBit 4 = .ok (.iand, 1) := by decide +kernel
theorem dX10_hasBit_5 : decode cX10_hasBit 5 = .ok (.ifCond .eq 7, 3) := by decide +kernel
theorem dX10_hasBit_8 : decode cX10_hasBit 8 = .ok (.iconst 1, 1) := by decide +kernel
theorem dX10_hasBit_9 : decode cX10_hasBit 9 = .ok (.goto 4, 3) := by decide +kernel
theorem dX10_hasBit_12 : decode cX10_hasBit 12 = .ok (.iconst 0, 1) := by decide +kernel
theorem dX10_hasBit_13 : decode cX10_hasBit 13 = .ok (.ireturn, 1) := by decide +kernel
theorem dX11_init_0 : decode cX11_init 0 = .ok (.aload_n 0, 1) := by decide +kernel
theorem dX11_init_1 : decode cX11_init 1 = .ok (.invokespecial 1, 3) := by decide +kernel
theorem dX11_init_4 : decode cX11_init 4 = .ok (.aload_n 0, 1) := by decide +kernel
theorem dX11_init_5 : decode cX11_init 5 = .ok (.sipush 240, 3) := by decide +kernel
theorem dX11_init_8 : decode cX11_init 8 = .ok (.newarray .int, 2) := by decide +kernel
theorem dX11_init_10 : decode cX11_init 10 = .ok (.putfield 7, 3) := by decide +kernel
theorem dX11_init_13 : decode cX11_init 13 = .ok (.aload_n 0, 1) := by decide +kernel
theorem dX11_init_14 : decode cX11_init 14 = .ok (.bipush 53, 2) := by decide +kernel
theorem dX11_init_16 : decode cX11_init 16 = .ok (.newarray .int, 2) := by decide +kernel
theorem dX11_init_18 : decode cX11_init 18 = .ok (.putfield 13, 3) := by decide +kernel
theorem dX11_init_21 : decode cX11_init 21 = .ok (.aload_n 0, 1) := by decide +kernel
theorem dX11_init_22 : decode cX11_init 22 = .ok (.bipush 53, 2) := by decide +kernel
theorem dX11_init_24 : decode cX11_init 24 = .ok (.newarray .int, 2) := by decide +kernel
theorem dX11_init_26 : decode cX11_init 26 = .ok (.putfield 16, 3) := by decide +kernel
theorem dX11_init_29 : decode cX11_init 29 = .ok (.aload_n 0, 1) := by decide +kernel
theorem dX11_init_30 : decode cX11_init 30 = .ok (.bipush 25, 2) := by decide +kernel
theorem dX11_init_32 : decode cX11_init 32 = .ok (.newarray .int, 2) := by decide +kernel
theorem dX11_init_34 : decode cX11_init 34 = .ok (.putfield 19, 3) := by decide +kernel
theorem dX11_init_37 : decode cX11_init 37 = .ok (.aload_n 0, 1) := by decide +kernel
theorem dX11_init_38 : decode cX11_init 38 = .ok (.sipush 750, 3) := by decide +kernel
theorem dX11_init_41 : decode cX11_init 41 = .ok (.newarray .int, 2) := by decide +kernel
theorem dX11_init_43 : decode cX11_init 43 = .ok (.putfield 22, 3) := by decide +kernel
theorem dX11_init_46 : decode cX11_init 46 = .ok (.aload_n 0, 1) := by decide +kernel
theorem dX11_init_47 : decode cX11_init 47 = .ok (.bipush 52, 2) := by decide +kernel
theorem dX11_init_49 : decode cX11_init 49 = .ok (.newarray .int, 2) := by decide +kernel
theorem dX11_init_51 : decode cX11_init 51 = .ok (.putfield 25, 3) := by decide +kernel
theorem dX11_init_54 : decode cX11_init 54 = .ok (.aload_n 0, 1) := by decide +kernel
theorem dX11_init_55 : decode cX11_init 55 = .ok (.iconst 2, 1) := by decide +kernel
theorem dX11_init_56 : decode cX11_init 56 = .ok (.newarray .boolean, 2) := by decide +kernel
theorem dX11_init_58 : decode cX11_init 58 = .ok (.putfield 28, 3) := by decide +kernel
theorem dX11_init_61 : decode cX11_init 61 = .ok (.aload_n 0, 1) := by decide +kernel
theorem dX11_init_62 : decode cX11_init 62 = .ok (.bipush 18, 2) := by decide +kernel
theorem dX11_init_64 : decode cX11_init 64 = .ok (.newarray .int, 2) := by decide +kernel
theorem dX11_init_66 : decode cX11_init 66 = .ok (.putfield 32, 3) := by decide +kernel
theorem dX11_init_69 : decode cX11_init 69 = .ok (.aload_n 0, 1) := by decide +kernel
theorem dX11_init_70 : decode cX11_init 70 = .ok (.bipush 40, 2) := by decide +kernel
theorem dX11_init_72 : decode cX11_init 72 = .ok (.newarray .int, 2) := by decide +kernel
theorem dX11_init_74 : decode cX11_init 74 = .ok (.putfield 35, 3) := by decide +kernel
theorem dX11_init_77 : decode cX11_init 77 = .ok (.aload_n 0, 1) := by decide +kernel
theorem dX11_init_78 : decode cX11_init 78 = .ok (.iconst (-1), 1) := by decide +kernel
theorem dX11_init_79 : decode cX11_init 79 = .ok (.putfield 38, 3) := by decide +kernel
theorem dX11_init_82 : decode cX11_init 82 = .ok (.aload_n 0, 1) := by decide +kernel
theorem dX11_init_83 : decode cX11_init 83 = .ok (.bipush 8, 2) := by decide +kernel
theorem dX11_init_85 : decode cX11_init 85 = .ok (.newarray .int, 2) := by decide +kernel
theorem dX11_init_87 : decode cX11_init 87 = .ok (.putfield 42, 3) := by decide +kernel
theorem dX11_init_90 : decode cX11_init 90 = .ok (.aload_n 0, 1) := by decide +kernel
theorem dX11_init_91 : decode cX11_init 91 = .ok (.bipush 7, 2) := by decide +kernel
theorem dX11_init_93 : decode cX11_init 93 = .ok (.newarray .int, 2) := by decide +kernel
theorem dX11_init_95 : decode cX11_init 95 = .ok (.putfield 45, 3) := by decide +kernel
theorem dX11_init_98 : decode cX11_init 98 = .ok (.aload_n 0, 1) := by decide +kernel
theorem dX11_init_99 : decode cX11_init 99 = .ok (.sipush 315, 3) := by decide +kernel
theorem dX11_init_102 : decode cX11_init 102 = .ok (.newarray .long, 2) := by decide +kernel
theorem dX11_init_104 : decode cX11_init 104 = .ok (.putfield 48, 3) := by decide +kernel
theorem dX11_init_107 : decode cX11_init 107 = .ok (.aload_n 0, 1) := by decide +kernel
theorem dX11_init_108 : decode cX11_init 108 = .ok (.iconst (-1), 1) := by decide +kernel
theorem dX11_init_109 : decode cX11_init 109 = .ok (.putfield 52, 3) := by decide +kernel
theorem dX11_init_112 : decode cX11_init 112 = .ok (.aload_n 0, 1) := by decide +kernel
theorem dX11_init_113 : decode cX11_init 113 = .ok (.bipush 7, 2) := by decide +kernel
theorem dX11_init_115 : decode cX11_init 115 = .ok (.newarray .int, 2) := by decide +kernel
theorem dX11_init_117 : decode cX11_init 117 = .ok (.putfield 55, 3) := by decide +kernel
theorem dX11_init_120 : decode cX11_init 120 = .ok (.aload_n 0, 1) := by decide +kernel
theorem dX11_init_121 : decode cX11_init 121 = .ok (.bipush 7, 2) := by decide +kernel
theorem dX11_init_123 : decode cX11_init 123 = .ok (.newarray .int, 2) := by decide +kernel
theorem dX11_init_125 : decode cX11_init 125 = .ok (.putfield 58, 3) := by decide +kernel
theorem dX11_init_128 : decode cX11_init 128 = .ok (.aload_n 0, 1) := by decide +kernel
theorem dX11_init_129 : decode cX11_init 129 = .ok (.bipush 7, 2) := by decide +kernel
theorem dX11_init_131 : decode cX11_init 131 = .ok (.newarray .int, 2) := by decide +kernel
theorem dX11_init_133 : decode cX11_init 133 = .ok (.putfield 61, 3) := by decide +kernel
theorem dX11_init_136 : decode cX11_init 136 = .ok (.aload_n 0, 1) := by decide +kernel
theorem dX11_init_137 : decode cX11_init 137 = .ok (.bipush 64, 2) := by decide +kernel
theorem dX11_init_139 : decode cX11_init 139 = .ok (.newarray .int, 2) := by decide +kernel
theorem dX11_init_141 : decode cX11_init 141 = .ok (.putfield 64, 3) := by decide +kernel
theorem dX11_init_144 : decode cX11_init 144 = .ok (.return_, 1) := by decide +kernel
theorem dX11_in_0 : decode cX11_in 0 = .ok (.iload_n 0, 1) := by decide +kernel
theorem dX11_in_1 : decode cX11_in 1 = .ok (.iload_n 1, 1) := by decide +kernel
theorem dX11_in_2 : decode cX11_in 2 = .ok (.if_icmp .lt 12, 3) := by decide +kernel
theorem dX11_in_5 : decode cX11_in 5 = .ok (.iload_n 0, 1) := by decide +kernel
theorem dX11_in_6 : decode cX11_in 6 = .ok (.iload_n 2, 1) := by decide +kernel
theorem dX11_in_7 : decode cX11_in 7 = .ok (.if_icmp .gt 7, 3) := by decide +kernel
theorem dX11_in_10 : decode cX11_in 10 = .ok (.iconst 1, 1) := by decide +kernel
theorem dX11_in_11 : decode cX11_in 11 = .ok (.goto 4, 3) := by decide +kernel
theorem dX11_in_14 : decode cX11_in 14 = .ok (.iconst 0, 1) := by decide +kernel
theorem dX11_in_15 : decode cX11_in 15 = .ok (.ireturn, 1) := by decide +kernel
theorem dX11_has_0 : decode cX11_has 0 = .ok (.iload_n 0, 1) := by decide +kernel
theorem dX11_has_1 : decode cX11_has 1 = .ok (.iload_n 1, 1) := by decide +kernel
theorem dX11_has_2 : decode cX11_has 2 = .ok (.ishr, 1) := by decide +kernel
theorem dX11_has_3 : decode cX11_has 3 = .ok (.iconst 1, 1) := by decide +kernel
theorem dX11_has_4 : decode cX11_has 4 = .ok (.iand, 1) := by decide +kernel
theorem dX11_has_5 : decode cX11_has 5 = .ok (.iconst 1, 1) := by decide +kernel
theorem dX11_has_6 : decode cX11_has 6 = .ok (.if_icmp .ne 7, 3) := by decide +kernel
theorem dX11_has_9 : decode cX11_has 9 = .ok (.iconst 1, 1) := by decide +kernel
theorem dX11_has_10 : decode cX11_has 10 = .ok (.goto 4, 3) := by decide +kernel
theorem dX11_has_13 : decode cX11_has 13 = .ok (.iconst 0, 1) := by decide +kernel
theorem dX11_has_14 : decode cX11_has 14 = .ok (.ireturn, 1) := by decide +kernel
theorem dX11_ones_0 : decode cX11_ones 0 = .ok (.iconst 0, 1) := by decide +kernel
theorem dX11_ones_1 : decode cX11_ones 1 = .ok (.istore_n 1, 1) := by decide +kernel
theorem dX11_ones_2 : decode cX11_ones 2 = .ok (.iconst 0, 1) := by decide +kernel
theorem dX11_ones_3 : decode cX11_ones 3 = .ok (.istore_n 2, 1) := by decide +kernel
theorem dX11_ones_4 : decode cX11_ones 4 = .ok (.iload_n 2, 1) := by decide +kernel
theorem dX11_ones_5 : decode cX11_ones 5 = .ok (.bipush 7, 2) := by decide +kernel
theorem dX11_ones_7 : decode cX11_ones 7 = .ok (.if_icmp .ge 17, 3) := by decide +kernel
theorem dX11_ones_10 : decode cX11_ones 10 = .ok (.iload_n 1, 1) := by decide +kernel
theorem dX11_ones_11 : decode cX11_ones 11 = .ok (.iload_n 0, 1) := by decide +kernel
theorem dX11_ones_12 : decode cX11_ones 12 = .ok (.iload_n 2, 1) := by decide +kernel
theorem dX11_ones_13 : decode cX11_ones 13 = .ok (.ishr, 1) := by decide +kernel
theorem dX11_ones_14 : decode cX11_ones 14 = .ok (.iconst 1, 1) := by decide +kernel
theorem dX11_ones_15 : decode cX11_ones 15 = .ok (.iand, 1) := by decide +kernel
theorem dX11_ones_16 : decode cX11_ones 16 = .ok (.iadd, 1) := by decide +kernel
theorem dX11_ones_17 : decode cX11_ones 17 = .ok (.istore_n 1, 1) := by decide +kernel
theorem dX11_ones_18 : decode cX11_ones 18 = .ok (.iinc 2 1, 3) := by decide +kernel
theorem dX11_ones_21 : decode cX11_ones 21 = .ok (.goto (-17), 3) := by decide +kernel
theorem dX11_ones_24 : decode cX11_ones 24 = .ok (.iload_n 1, 1) := by decide +kernel
theorem dX11_ones_25 : decode cX11_ones 25 = .ok (.ireturn, 1) := by decide +kernel
theorem dX11_isFlag_0 : decode cX11_isFlag 0 = .ok (.iload_n 1, 1) := by decide +kernel
theorem dX11_isFlag_1 : decode cX11_isFlag 1 = .ok (.iconst 0, 1) := by decide +kernel
theorem dX11_isFlag_2 : decode cX11_isFlag 2 = .ok (.aload_n 0, 1) := by decide +kernel
theorem dX11_isFlag_3 : decode cX11_isFlag 3 = .ok (.getfield 13, 3) := by decide +kernel
theorem dX11_isFlag_6 : decode cX11_isFlag 6 = .ok (.iconst 1, 1) := by decide +kernel
theorem dX11_isFlag_7 : decode cX11_isFlag 7 = .ok (.iaload, 1) := by decide +kernel
theorem dX11_isFlag_8 : decode cX11_isFlag 8 = .ok (.iconst 1, 1) := by decide +kernel
theorem dX11_isFlag_9 : decode cX11_isFlag 9 = .ok (.isub, 1) := by decide +kernel
theorem dX11_isFlag_10 : decode cX11_isFlag 10 = .ok (.invokestatic 67, 3) := by decide +kernel
theorem dX11_isFlag_13 : decode cX11_isFlag 13 = .ok (.ireturn, 1) := by decide +kernel
theorem dX11_feed_0 : decode cX11_feed 0 = .ok (.iload_n 1, 1) := by decide +kernel
theorem dX11_feed_1 : decode cX11_feed 1 = .ok (.iconst 0, 1) := by decide +kernel
theorem dX11_feed_2 : decode cX11_feed 2 = .ok (.sipush 255, 3) := by decide +kernel
theorem dX11_feed_5 : decode cX11_feed 5 = .ok (.invokestatic 67, 3) := by decide +kernel
theorem dX11_feed_8 : decode cX11_feed 8 = .ok (.ifCond .ne 6, 3) := by decide +kernel
theorem dX11_feed_11 : decode cX11_feed 11 = .ok (.ldc 71, 2) := by decide +kernel
theorem dX11_feed_13 : decode cX11_feed 13 = .ok (.ireturn, 1) := by decide +kernel
theorem dX11_feed_14 : decode cX11_feed 14 = .ok (.aload_n 0, 1) := by decide +kernel
theorem dX11_feed_15 : decode cX11_feed 15 = .ok (.getfield 72, 3) := by decide +kernel
theorem dX11_feed_18 : decode cX11_feed 18 = .ok (.sipush 240, 3) := by decide +kernel
theorem dX11_feed_21 : decode cX11_feed 21 = .ok (.if_icmp .ne 6, 3) := by decide +kernel
theorem dX11_feed_24 : decode cX11_feed 24 = .ok (.ldc 75, 2) := by decide +kernel
theorem dX11_feed_26 : decode cX11_feed 26 = .ok (.ireturn, 1) := by decide +kernel
theorem dX11_feed_27 : decode cX11_feed 27 = .ok (.aload_n 0, 1) := by decide +kernel
theorem dX11_feed_28 : decode cX11_feed 28 = .ok (.getfield 7, 3) := by decide +kernel
theorem dX11_feed_31 : decode cX11_feed 31 = .ok (.aload_n 0, 1) := by decide +kernel
theorem dX11_feed_32 : decode cX11_feed 32 = .ok (.getfield 72, 3) := by decide +kernel
theorem dX11_feed_35 : decode cX11_feed 35 = .ok (.iload_n 1, 1) := by decide +kernel
theorem dX11_feed_36 : decode cX11_feed 36 = .ok (.iastore, 1) := by decide +kernel
theorem dX11_feed_37 : decode cX11_feed 37 = .ok (.aload_n 0, 1) := by decide +kernel
theorem dX11_feed_38 : decode cX11_feed 38 = .ok (.dup, 1) := by decide +kernel
theorem dX11_feed_39 : decode cX11_feed 39 = .ok (.getfield 72, 3) := by decide +kernel
theorem dX11_feed_42 : decode cX11_feed 42 = .ok (.iconst 1, 1) := by decide +kernel
theorem dX11_feed_43 : decode cX11_feed 43 = .ok (.iadd, 1) := by decide +kernel
theorem dX11_feed_44 : decode cX11_feed 44 = .ok (.putfield 72, 3) := by decide +kernel
theorem dX11_feed_47 : decode cX11_feed 47 = .ok (.aload_n 0, 1) := by decide +kernel
theorem dX11_feed_48 : decode cX11_feed 48 = .ok (.getfield 72, 3) := by decide +kernel
theorem dX11_feed_51 : decode cX11_feed 51 = .ok (.ireturn, 1) := by decide +kernel
theorem dX11_next0_0 : decode cX11_next0 0 = .ok (.aload_n 0, 1) := by decide +kernel
theorem dX11_next0_1 : decode cX11_next0 1 = .ok (.getfield 76, 3) := by decide +kernel
theorem dX11_next0_4 : decode cX11_next0 4 = .ok (.aload_n 0, 1) := by decide +kernel
theorem dX11_next0_5 : decode cX11_next0 5 = .ok (.getfield 72, 3) := by decide +kernel
theorem dX11_next0_8 : decode cX11_next0 8 = .ok (.if_icmp .ge 30, 3) := by decide +kernel
theorem dX11_next0_11 : decode cX11_next0 11 = .ok (.aload_n 0, 1) := by decide +kernel
theorem dX11_next0_12 : decode cX11_next0 12 = .ok (.getfield 7, 3) := by decide +kernel
theorem dX11_next0_15 : decode cX11_next0 15 = .ok (.aload_n 0, 1) := by decide +kernel
theorem dX11_next0_16 : decode cX11_next0 16 = .ok (.getfield 76, 3) := by decide +kernel
theorem dX11_next0_19 : decode cX11_next0 19 = .ok (.iaload, 1) := by decide +kernel
theorem dX11_next0_20 : decode cX11_next0 20 = .ok (.bipush 32, 2) := by decide +kernel
theorem dX11_next0_22 : decode cX11_next0 22 = .ok (.if_icmp .ne 16, 3) := by decide +kernel
theorem dX11_next0_25 : decode cX11_next0 25 = .ok (.aload_n 0, 1) := by decide +kernel
theorem dX11_next0_26 : decode cX11_next0 26 = .ok (.dup, 1) := by decide +kernel
theorem dX11_next0_27 : decode cX11_next0 27 = .ok (.getfield 76, 3) := by decide +kernel
theorem dX11_next0_30 : decode cX11_next0 30 = .ok (.iconst 1, 1) := by decide +kernel
theorem dX11_next0_31 : decode cX11_next0 31 = .ok (.iadd, 1) := by decide +kernel
theorem dX11_next0_32 : decode cX11_next0 32 = .ok (.putfield 76, 3) := by decide +kernel
theorem dX11_next0_35 : decode cX11_next0 35 = .ok (.goto (-35), 3) := by decide +kernel
theorem dX11_next0_38 : decode cX11_next0 38 = .ok (.aload_n 0, 1) := by decide +kernel
theorem dX11_next0_39 : decode cX11_next0 39 = .ok (.getfield 76, 3) := by decide +kernel
theorem dX11_next0_42 : decode cX11_next0 42 = .ok (.aload_n 0, 1) := by decide +kernel
theorem dX11_next0_43 : decode cX11_next0 43 = .ok (.getfield 72, 3) := by decide +kernel
theorem dX11_next0_46 : decode cX11_next0 46 = .ok (.if_icmp .ge 15, 3) := by decide +kernel
theorem dX11_next0_49 : decode cX11_next0 49 = .ok (.aload_n 0, 1) := by decide +kernel
theorem dX11_next0_50 : decode cX11_next0 50 = .ok (.getfield 7, 3) := by decide +kernel
theorem dX11_next0_53 : decode cX11_next0 53 = .ok (.aload_n 0, 1) := by decide +kernel
theorem dX11_next0_54 : decode cX11_next0 54 = .ok (.getfield 76, 3) := by decide +kernel
theorem dX11_next0_57 : decode cX11_next0 57 = .ok (.iaload, 1) := by decide +kernel
theorem dX11_next0_58 : decode cX11_next0 58 = .ok (.goto 4, 3) := by decide +kernel
theorem dX11_next0_61 : decode cX11_next0 61 = .ok (.iconst (-1), 1) := by decide +kernel
theorem dX11_next0_62 : decode cX11_next0 62 = .ok (.ireturn, 1) := by decide +kernel
theorem dX11_isFigure_0 : decode cX11_isFigure 0 = .ok (.iload_n 0, 1) := by decide +kernel
theorem dX11_isFigure_1 : decode cX11_isFigure 1 = .ok (.bipush 48, 2) := by decide +kernel
theorem dX11_isFigure_3 : decode cX11_isFigure 3 = .ok (.bipush 57, 2) := by decide +kernel
theorem dX11_isFigure_5 : decode cX11_isFigure 5 = .ok (.invokestatic 67, 3) := by decide +kernel
theorem dX11_isFigure_8 : decode cX11_isFigure 8 = .ok (.ireturn, 1) := by decide +kernel
theorem dX11_faulty_0 : decode cX11_faulty 0 = .ok (.aload_n 0, 1) := by decide +kernel
theorem dX11_faulty_1 : decode cX11_faulty 1 = .ok (.iload_n 1, 1) := by decide +kernel
theorem dX11_faulty_2 : decode cX11_faulty 2 = .ok (.putfield 79, 3) := by decide +kernel
theorem dX11_faulty_5 : decode cX11_faulty 5 = .ok (.iconst 0, 1) := by decide +kernel
theorem dX11_faulty_6 : decode cX11_faulty 6 = .ok (.ireturn, 1) := by decide +kernel
theorem dX11_number_0 : decode cX11_number 0 = .ok (.aload_n 0, 1) := by decide +kernel
theorem dX11_number_1 : decode cX11_number 1 = .ok (.invokevirtual 82, 3) := by decide +kernel
theorem dX11_number_4 : decode cX11_number 4 = .ok (.invokestatic 86, 3) := by decide +kernel
theorem dX11_number_7 : decode cX11_number 7 = .ok (.ifCond .ne 9, 3) := by decide +kernel
theorem dX11_number_10 : decode cX11_number 10 = .ok (.aload_n 0, 1) := by decide +kernel
theorem dX11_number_11 : decode cX11_number 11 = .ok (.iconst 1, 1) := by decide +kernel
theorem dX11_number_12 : decode cX11_number 12 = .ok (.invokevirtual 90, 3) := by decide +kernel
theorem dX11_number_15 : decode cX11_number 15 = .ok (.ireturn, 1) := by decide +kernel
theorem dX11_number_16 : decode cX11_number 16 = .ok (.aload_n 0, 1) := by decide +kernel
theorem dX11_number_17 : decode cX11_number 17 = .ok (.getfield 76, 3) := by decide +kernel
theorem dX11_number_20 : decode cX11_number 20 = .ok (.istore 4, 2) := by decide +kernel
theorem dX11_number_22 : decode cX11_number 22 = .ok (.iconst 0, 1) := by decide +kernel
theorem dX11_number_23 : decode cX11_number 23 = .ok (.istore 5, 2) := by decide +kernel
theorem dX11_number_25 : decode cX11_number 25 = .ok (.aload_n 0, 1) := by decide +kernel
theorem dX11_number_26 : decode cX11_number 26 = .ok (.getfield 76, 3) := by decide +kernel
theorem dX11_number_29 : decode cX11_number 29 = .ok (.aload_n 0, 1) := by decide +kernel
theorem dX11_number_30 : decode cX11_number 30 = .ok (.getfield 72, 3) := by decide +kernel
theorem dX11_number_33 : decode cX11_number 33 = .ok (.if_icmp .ge 68, 3) := by decide +kernel
theorem dX11_number_36 : decode cX11_number 36 = .ok (.aload_n 0, 1) := by decide +kernel
theorem dX11_number_37 : decode cX11_number 37 = .ok (.getfield 7, 3) := by decide +kernel
theorem dX11_number_40 : decode cX11_number 40 = .ok (.aload_n 0, 1) := by decide +kernel
theorem dX11_number_41 : decode cX11_number 41 = .ok (.getfield 76, 3) := by decide +kernel
theorem dX11_number_44 : decode cX11_number 44 = .ok (.iaload, 1) := by decide +kernel
theorem dX11_number_45 : decode cX11_number 45 = .ok (.invokestatic 86, 3) := by decide +kernel
theorem dX11_number_48 : decode cX11_number 48 = .ok (.ifCond .eq 53, 3) := by decide +kernel
theorem dX11_number_51 : decode cX11_number 51 = .ok (.aload_n 0, 1) := by decide +kernel
theorem dX11_number_52 : decode cX11_number 52 = .ok (.getfield 76, 3) := by decide +kernel
theorem dX11_number_55 : decode cX11_number 55 = .ok (.iload 4, 2) := by decide +kernel
theorem dX11_number_57 : decode cX11_number 57 = .ok (.isub, 1) := by decide +kernel
theorem dX11_number_58 : decode cX11_number 58 = .ok (.iconst 2, 1) := by decide +kernel
theorem dX11_number_59 : decode cX11_number 59 = .ok (.if_icmp .le 9, 3) := by decide +kernel
theorem dX11_number_62 : decode cX11_number 62 = .ok (.sipush 1000, 3) := by decide +kernel
theorem dX11_number_65 : decode cX11_number 65 = .ok (.goto 21, 3) := by decide +kernel
theorem dX11_number_68 : decode cX11_number 68 = .ok (.bipush 10, 2) := by decide +kernel
theorem dX11_number_70 : decode cX11_number 70 = .ok (.iload 5, 2) := by decide +kernel
theorem dX11_number_72 : decode cX11_number 72 = .ok (.imul, 1) := by decide +kernel
theorem dX11_number_73 : decode cX11_number 73 = .ok (.aload_n 0, 1) := by decide +kernel
theorem dX11_number_74 : decode cX11_number 74 = .ok (.getfield 7, 3) := by decide +kernel
theorem dX11_number_77 : decode cX11_number 77 = .ok (.aload_n 0, 1) := by decide +kernel
theorem dX11_number_78 : decode cX11_number 78 = .ok (.getfield 76, 3) := by decide +kernel
theorem dX11_number_81 : decode cX11_number 81 = .ok (.iaload, 1) := by decide +kernel
theorem dX11_number_82 : decode cX11_number 82 = .ok (.iadd, 1) := by decide +kernel
theorem dX11_number_83 : decode cX11_number 83 = .ok (.bipush 48, 2) := by decide +kernel
theorem dX11_number_85 : decode cX11_number 85 = .ok (.isub, 1) := by decide +kernel
theorem dX11_number_86 : decode cX11_number 86 = .ok (.istore 5, 2) := by decide +kernel
theorem dX11_number_88 : decode cX11_number 88 = .ok (.aload_n 0, 1) := by decide +kernel
theorem dX11_number_89 : decode cX11_number 89 = .ok (.dup, 1) := by decide +kernel
theorem dX11_number_90 : decode cX11_number 90 = .ok (.getfield 76, 3) := by decide +kernel
theorem dX11_number_93 : decode cX11_number 93 = .ok (.iconst 1, 1) := by decide +kernel
theorem dX11_number_94 : decode cX11_number 94 = .ok (.iadd, 1) := by decide +kernel
theorem dX11_number_95 : decode cX11_number 95 = .ok (.putfield 76, 3) := by decide +kernel
theorem dX11_number_98 : decode cX11_number 98 = .ok (.goto (-73), 3) := by decide +kernel
theorem dX11_number_101 : decode cX11_number 101 = .ok (.aload_n 0, 1) := by decide +kernel
theorem dX11_number_102 : decode cX11_number 102 = .ok (.getfield 76, 3) := by decide +kernel
theorem dX11_number_105 : decode cX11_number 105 = .ok (.iload 4, 2) := by decide +kernel
theorem dX11_number_107 : decode cX11_number 107 = .ok (.isub, 1) := by decide +kernel
theorem dX11_number_108 : decode cX11_number 108 = .ok (.iconst 3, 1) := by decide +kernel
theorem dX11_number_109 : decode cX11_number 109 = .ok (.if_icmp .gt 13, 3) := by decide +kernel
theorem dX11_number_112 : decode cX11_number 112 = .ok (.iload 5, 2) := by decide +kernel
theorem dX11_number_114 : decode cX11_number 114 = .ok (.iload_n 2, 1) := by decide +kernel
theorem dX11_number_115 : decode cX11_number 115 = .ok (.iload_n 3, 1) := by decide +kernel
theorem dX11_number_116 : decode cX11_number 116 = .ok (.invokestatic 67, 3) := by decide +kernel
theorem dX11_number_119 : decode cX11_number 119 = .ok (.ifCond .ne 15, 3) := by decide +kernel
theorem dX11_number_122 : decode cX11_number 122 = .ok (.aload_n 0, 1) := by decide +kernel
theorem dX11_number_123 : decode cX11_number 123 = .ok (.iload 4, 2) := by decide +kernel
theorem dX11_number_125 : decode cX11_number 125 = .ok (.putfield 76, 3) := by decide +kernel
theorem dX11_number_128 : decode cX11_number 128 = .ok (.aload_n 0, 1) := by decide +kernel
theorem dX11_number_129 : decode cX11_number 129 = .ok (.iconst 2, 1) := by decide +kernel
theorem dX11_number_130 : decode cX11_number 130 = .ok (.invokevirtual 90, 3) := by decide +kernel
theorem dX11_number_133 : decode cX11_number 133 = .ok (.ireturn, 1) := by decide +kernel
theorem dX11_number_134 : decode cX11_number 134 = .ok (.aload_n 0, 1) := by decide +kernel
theorem dX11_number_135 : decode cX11_number 135 = .ok (.getfield 16, 3) := by decide +kernel
theorem dX11_number_138 : decode cX11_number 138 = .ok (.iload_n 1, 1) := by decide +kernel
theorem dX11_number_139 : decode cX11_number 139 = .ok (.iload 5, 2) := by decide +kernel
theorem dX11_number_141 : decode cX11_number 141 = .ok (.iastore, 1) := by decide +kernel
theorem dX11_number_142 : decode cX11_number 142 = .ok (.iconst 1, 1) := by decide +kernel
theorem dX11_number_143 : decode cX11_number 143 = .ok (.ireturn, 1) := by decide +kernel
theorem dX11_ends_0 : decode cX11_ends 0 = .ok (.aload_n 0, 1) := by decide +kernel
theorem dX11_ends_1 : decode cX11_ends 1 = .ok (.invokevirtual 82, 3) := by decide +kernel
theorem dX11_ends_4 : decode cX11_ends 4 = .ok (.bipush 59, 2) := by decide +kernel
theorem dX11_ends_6 : decode cX11_ends 6 = .ok (.if_icmp .eq 9, 3) := by decide +kernel
theorem dX11_ends_9 : decode cX11_ends 9 = .ok (.aload_n 0, 1) := by decide +kernel
theorem dX11_ends_10 : decode cX11_ends 10 = .ok (.iconst 1, 1) := by decide +kernel
theorem dX11_ends_11 : decode cX11_ends 11 = .ok (.invokevirtual 90, 3) := by decide +kernel
theorem dX11_ends_14 : decode cX11_ends 14 = .ok (.ireturn, 1) := by decide +kernel
theorem dX11_ends_15 : decode cX11_ends 15 = .ok (.aload_n 0, 1) := by decide +kernel
theorem dX11_ends_16 : decode cX11_ends 16 = .ok (.dup, 1) := by decide +kernel
theorem dX11_ends_17 : decode cX11_ends 17 = .ok (.getfield 76, 3) := by decide +kernel
theorem dX11_ends_20 : decode cX11_ends 20 = .ok (.iconst 1, 1) := by decide +kernel
theorem dX11_ends_21 : decode cX11_ends 21 = .ok (.iadd, 1) := by decide +kernel
theorem dX11_ends_22 : decode cX11_ends 22 = .ok (.putfield 76, 3) := by decide +kernel
theorem dX11_ends_25 : decode cX11_ends 25 = .ok (.iconst 1, 1) := by decide +kernel
theorem dX11_ends_26 : decode cX11_ends 26 = .ok (.ireturn, 1) := by decide +kernel
theorem dX11_readsWord_0 : decode cX11_readsWord 0 = .ok (.aload_n 0, 1) := by decide +kernel
theorem dX11_readsWord_1 : decode cX11_readsWord 1 = .ok (.getfield 16, 3) := by decide +kernel
theorem dX11_readsWord_4 : decode cX11_readsWord 4 = .ok (.iconst 2, 1) := by decide +kernel
theorem dX11_readsWord_5 : decode cX11_readsWord 5 = .ok (.iaload, 1) := by decide +kernel
theorem dX11_readsWord_6 : decode cX11_readsWord 6 = .ok (.istore_n 1, 1) := by decide +kernel
theorem dX11_readsWord_7 : decode cX11_readsWord 7 = .ok (.iconst 0, 1) := by decide +kernel
theorem dX11_readsWord_8 : decode cX11_readsWord 8 = .ok (.istore_n 2, 1) := by decide +kernel
theorem dX11_readsWord_9 : decode cX11_readsWord 9 = .ok (.iload_n 2, 1) := by decide +kernel
theorem dX11_readsWord_10 : decode cX11_readsWord 10 = .ok (.iconst 4, 1) := by decide +kernel
theorem dX11_readsWord_11 : decode cX11_readsWord 11 = .ok (.if_icmp .ge 67, 3) := by decide +kernel
theorem dX11_readsWord_14 : decode cX11_readsWord 14 = .ok (.aload_n 0, 1) := by decide +kernel
theorem dX11_readsWord_15 : decode cX11_readsWord 15 = .ok (.bipush 19, 2) := by decide +kernel
theorem dX11_readsWord_17 : decode cX11_readsWord 17 = .ok (.iconst 4, 1) := by decide +kernel
theorem dX11_readsWord_18 : decode cX11_readsWord 18 = .ok (.iload_n 1, 1) := by decide +kernel
theorem dX11_readsWord_19 : decode cX11_readsWord 19 = .ok (.imul, 1) := by decide +kernel
theorem dX11_readsWord_20 : decode cX11_readsWord 20 = .ok (.iadd, 1) := by decide +kernel
theorem dX11_readsWord_21 : decode cX11_readsWord 21 = .ok (.iload_n 2, 1) := by decide +kernel
theorem dX11_readsWord_22 : decode cX11_readsWord 22 = .ok (.iadd, 1) := by decide +kernel
theorem dX11_readsWord_23 : decode cX11_readsWord 23 = .ok (.iconst 0, 1) := by decide +kernel
theorem dX11_readsWord_24 : decode cX11_readsWord 24 = .ok (.iconst 5, 1) := by decide +kernel
theorem dX11_readsWord_25 : decode cX11_readsWord 25 = .ok (.invokevirtual 93, 3) := by decide +kernel
theorem dX11_readsWord_28 : decode cX11_readsWord 28 = .ok (.ifCond .ne 5, 3) := by decide +kernel
theorem dX11_readsWord_31 : decode cX11_readsWord 31 = .ok (.iconst 0, 1) := by decide +kernel
theorem dX11_readsWord_32 : decode cX11_readsWord 32 = .ok (.ireturn, 1) := by decide +kernel
theorem dX11_readsWord_33 : decode cX11_readsWord 33 = .ok (.aload_n 0, 1) := by decide +kernel
theorem dX11_readsWord_34 : decode cX11_readsWord 34 = .ok (.invokevirtual 82, 3) := by decide +kernel
theorem dX11_readsWord_37 : decode cX11_readsWord 37 = .ok (.bipush 44, 2) := by decide +kernel
theorem dX11_readsWord_39 : decode cX11_readsWord 39 = .ok (.if_icmp .eq 18, 3) := by decide +kernel
theorem dX11_readsWord_42 : decode cX11_readsWord 42 = .ok (.aload_n 0, 1) := by decide +kernel
theorem dX11_readsWord_43 : decode cX11_readsWord 43 = .ok (.getfield 16, 3) := by decide +kernel
theorem dX11_readsWord_46 : decode cX11_readsWord 46 = .ok (.iconst 2, 1) := by decide +kernel
theorem dX11_readsWord_47 : decode cX11_readsWord 47 = .ok (.dup2, 1) := by decide +kernel
theorem dX11_readsWord_48 : decode cX11_readsWord 48 = .ok (.iaload, 1) := by decide +kernel
theorem dX11_readsWord_49 : decode cX11_readsWord 49 = .ok (.iconst 1, 1) := by decide +kernel
theorem dX11_readsWord_50 : decode cX11_readsWord 50 = .ok (.iadd, 1) := by decide +kernel
theorem dX11_readsWord_51 : decode cX11_readsWord 51 = .ok (.iastore, 1) := by decide +kernel
theorem dX11_readsWord_52 : decode cX11_readsWord 52 = .ok (.aload_n 0, 1) := by decide +kernel
theorem dX11_readsWord_53 : decode cX11_readsWord 53 = .ok (.invokevirtual 96, 3) := by decide +kernel
theorem dX11_readsWord_56 : decode cX11_readsWord 56 = .ok (.ireturn, 1) := by decide +kernel
theorem dX11_readsWord_57 : decode cX11_readsWord 57 = .ok (.iload_n 2, 1) := by decide +kernel
theorem dX11_readsWord_58 : decode cX11_readsWord 58 = .ok (.iconst 3, 1) := by decide +kernel
theorem dX11_readsWord_59 : decode cX11_readsWord 59 = .ok (.if_icmp .ge 13, 3) := by decide +kernel
theorem dX11_readsWord_62 : decode cX11_readsWord 62 = .ok (.aload_n 0, 1) := by decide +kernel
theorem dX11_readsWord_63 : decode cX11_readsWord 63 = .ok (.dup, 1) := by decide +kernel
theorem dX11_readsWord_64 : decode cX11_readsWord 64 = .ok (.getfield 76, 3) := by decide +kernel
theorem dX11_readsWord_67 : decode cX11_readsWord 67 = .ok (.iconst 1, 1) := by decide +kernel
theorem dX11_readsWord_68 : decode cX11_readsWord 68 = .ok (.iadd, 1) := by decide +kernel
theorem dX11_readsWord_69 : decode cX11_readsWord 69 = .ok (.putfield 76, 3) := by decide +kernel
theorem dX11_readsWord_72 : decode cX11_readsWord 72 = .ok (.iinc 2 1, 3) := by decide +kernel
theorem dX11_readsWord_75 : decode cX11_readsWord 75 = .ok (.goto (-66), 3) := by decide +kernel
theorem dX11_readsWord_78 : decode cX11_readsWord 78 = .ok (.aload_n 0, 1) := by decide +kernel
theorem dX11_readsWord_79 : decode cX11_readsWord 79 = .ok (.iconst 1, 1) := by decide +kernel
theorem dX11_readsWord_80 : decode cX11_readsWord 80 = .ok (.invokevirtual 90, 3) := by decide +kernel
theorem dX11_readsWord_83 : decode cX11_readsWord 83 = .ok (.ireturn, 1) := by decide +kernel
theorem dX11_readsClause_0 : decode cX11_readsClause 0 = .ok (.iload_n 1, 1) := by decide +kernel
theorem dX11_readsClause_1 : decode cX11_readsClause 1 = .ok (.bipush 121, 2) := by decide +kernel
theorem dX11_readsClause_3 : decode cX11_readsClause 3 = .ok (.if_icmp .ne 60, 3) := by decide +kernel
theorem dX11_readsClause_6 : decode cX11_readsClause 6 = .ok (.aload_n 0, 1) := by decide +kernel
theorem dX11_readsClause_7 : decode cX11_readsClause 7 = .ok (.getfield 16, 3) := by decide +kernel
theorem dX11_readsClause_10 : decode cX11_readsClause 10 = .ok (.iconst 0, 1) := by decide +kernel
theorem dX11_readsClause_11 : decode cX11_readsClause 11 = .ok (.iaload, 1) := by decide +kernel
theorem dX11_readsClause_12 : decode cX11_readsClause 12 = .ok (.iconst 1, 1) := by decide +kernel
theorem dX11_readsClause_13 : decode cX11_readsClause 13 = .ok (.if_icmp .ne 9, 3) := by decide +kernel
theorem dX11_readsClause_16 : decode cX11_readsClause 16 = .ok (.aload_n 0, 1) := by decide +kernel
theorem dX11_readsClause_17 : decode cX11_readsClause 17 = .ok (.iconst 3, 1) := by decide +kernel
theorem dX11_readsClause_18 : decode cX11_readsClause 18 = .ok (.invokevirtual 90, 3) := by decide +kernel
theorem dX11_readsClause_21 : decode cX11_readsClause 21 = .ok (.ireturn, 1) := by decide +kernel
theorem dX11_readsClause_22 : decode cX11_readsClause 22 = .ok (.aload_n 0, 1) := by decide +kernel
theorem dX11_readsClause_23 : decode cX11_readsClause 23 = .ok (.getfield 16, 3) := by decide +kernel
theorem dX11_readsClause_26 : decode cX11_readsClause 26 = .ok (.iconst 0, 1) := by decide +kernel
theorem dX11_readsClause_27 : decode cX11_readsClause 27 = .ok (.iconst 1, 1) := by decide +kernel
theorem dX11_readsClause_28 : decode cX11_readsClause 28 = .ok (.iastore, 1) := by decide +kernel
theorem dX11_readsClause_29 : decode cX11_readsClause 29 = .ok (.aload_n 0, 1) := by decide +kernel
theorem dX11_readsClause_30 : decode cX11_readsClause 30 = .ok (.dup, 1) := by decide +kernel
theorem dX11_readsClause_31 : decode cX11_readsClause 31 = .ok (.getfield 76, 3) := by decide +kernel
theorem dX11_readsClause_34 : decode cX11_readsClause 34 = .ok (.iconst 1, 1) := by decide +kernel
theorem dX11_readsClause_35 : decode cX11_readsClause 35 = .ok (.iadd, 1) := by decide +kernel
theorem dX11_readsClause_36 : decode cX11_readsClause 36 = .ok (.putfield 76, 3) := by decide +kernel
theorem dX11_readsClause_39 : decode cX11_readsClause 39 = .ok (.aload_n 0, 1) := by decide +kernel
theorem dX11_readsClause_40 : decode cX11_readsClause 40 = .ok (.iconst 4, 1) := by decide +kernel
theorem dX11_readsClause_41 : decode cX11_readsClause 41 = .ok (.iconst 0, 1) := by decide +kernel
theorem dX11_readsClause_42 : decode cX11_readsClause 42 = .ok (.bipush 9, 2) := by decide +kernel
theorem dX11_readsClause_44 : decode cX11_readsClause 44 = .ok (.invokevirtual 93, 3) := by decide +kernel
theorem dX11_readsClause_47 : decode cX11_readsClause 47 = .ok (.ifCond .eq 14, 3) := by decide +kernel
theorem dX11_readsClause_50 : decode cX11_readsClause 50 = .ok (.aload_n 0, 1) := by decide +kernel
theorem dX11_readsClause_51 : decode cX11_readsClause 51 = .ok (.invokevirtual 96, 3) := by decide +kernel
theorem dX11_readsClause_54 : decode cX11_readsClause 54 = .ok (.ifCond .eq 7, 3) := by decide +kernel
theorem dX11_readsClause_57 : decode cX11_readsClause 57 = .ok (.iconst 1, 1) := by decide +kernel
theorem dX11_readsClause_58 : decode cX11_readsClause 58 = .ok (.goto 4, 3) := by decide +kernel
theorem dX11_readsClause_61 : decode cX11_readsClause 61 = .ok (.iconst 0, 1) := by decide +kernel
theorem dX11_readsClause_62 : decode cX11_readsClause 62 = .ok (.ireturn, 1) := by decide +kernel
theorem dX11_readsClause_63 : decode cX11_readsClause 63 = .ok (.aload_n 0, 1) := by decide +kernel
theorem dX11_readsClause_64 : decode cX11_readsClause 64 = .ok (.getfield 16, 3) := by decide +kernel
theorem dX11_readsClause_67 : decode cX11_readsClause 67 = .ok (.iconst 0, 1) := by decide +kernel
theorem dX11_readsClause_68 : decode cX11_readsClause 68 = .ok (.iaload, 1) := by decide +kernel
theorem dX11_readsClause_69 : decode cX11_readsClause 69 = .ok (.ifCond .eq 21, 3) := by decide +kernel
theorem dX11_readsClause_72 : decode cX11_readsClause 72 = .ok (.iload_n 1, 1) := by decide +kernel
theorem dX11_readsClause_73 : decode cX11_readsClause 73 = .ok (.bipush 102, 2) := by decide +kernel
theorem dX11_readsClause_75 : decode cX11_readsClause 75 = .ok (.if_icmp .eq 21, 3) := by decide +kernel
theorem dX11_readsClause_78 : decode cX11_readsClause 78 = .ok (.iload_n 1, 1) := by decide +kernel
theorem dX11_readsClause_79 : decode cX11_readsClause 79 = .ok (.bipush 119, 2) := by decide +kernel
theorem dX11_readsClause_81 : decode cX11_readsClause 81 = .ok (.if_icmp .eq 15, 3) := by decide +kernel
theorem dX11_readsClause_84 : decode cX11_readsClause 84 = .ok (.iload_n 1, 1) := by decide +kernel
theorem dX11_readsClause_85 : decode cX11_readsClause 85 = .ok (.bipush 104, 2) := by decide +kernel
theorem dX11_readsClause_87 : decode cX11_readsClause 87 = .ok (.if_icmp .eq 9, 3) := by decide +kernel
theorem dX11_readsClause_90 : decode cX11_readsClause 90 = .ok (.aload_n 0, 1) := by decide +kernel
theorem dX11_readsClause_91 : decode cX11_readsClause 91 = .ok (.iconst 1, 1) := by decide +kernel
theorem dX11_readsClause_92 : decode cX11_readsClause 92 = .ok (.invokevirtual 90, 3) := by decide +kernel
theorem dX11_readsClause_95 : decode cX11_readsClause 95 = .ok (.ireturn, 1) := by decide +kernel
theorem dX11_readsClause_96 : decode cX11_readsClause 96 = .ok (.aload_n 0, 1) := by decide +kernel
theorem dX11_readsClause_97 : decode cX11_readsClause 97 = .ok (.getfield 16, 3) := by decide +kernel
theorem dX11_readsClause_100 : decode cX11_readsClause 100 = .ok (.iconst 1, 1) := by decide +kernel
theorem dX11_readsClause_101 : decode cX11_readsClause 101 = .ok (.iaload, 1) := by decide +kernel
theorem dX11_readsClause_102 : decode cX11_readsClause 102 = .ok (.istore_n 2, 1) := by decide +kernel
theorem dX11_readsClause_103 : decode cX11_readsClause 103 = .ok (.aload_n 0, 1) := by decide +kernel
theorem dX11_readsClause_104 : decode cX11_readsClause 104 = .ok (.getfield 16, 3) := by decide +kernel
theorem dX11_readsClause_107 : decode cX11_readsClause 107 = .ok (.iconst 3, 1) := by decide +kernel
theorem dX11_readsClause_108 : decode cX11_readsClause 108 = .ok (.iaload, 1) := by decide +kernel
theorem dX11_readsClause_109 : decode cX11_readsClause 109 = .ok (.istore_n 3, 1) := by decide +kernel
theorem dX11_readsClause_110 : decode cX11_readsClause 110 = .ok (.iload_n 1, 1) := by decide +kernel
theorem dX11_readsClause_111 : decode cX11_readsClause 111 = .ok (.bipush 102, 2) := by decide +kernel
theorem dX11_readsClause_113 : decode cX11_readsClause 113 = .ok (.if_icmp .ne 9, 3) := by decide +kernel
theorem dX11_readsClause_116 : decode cX11_readsClause 116 = .ok (.iload_n 2, 1) := by decide +kernel
theorem dX11_readsClause_117 : decode cX11_readsClause 117 = .ok (.bipush 7, 2) := by decide +kernel
theorem dX11_readsClause_119 : decode cX11_readsClause 119 = .ok (.if_icmp .eq 31, 3) := by decide +kernel
theorem dX11_readsClause_122 : decode cX11_readsClause 122 = .ok (.iload_n 1, 1) := by decide +kernel
theorem dX11_readsClause_123 : decode cX11_readsClause 123 = .ok (.bipush 119, 2) := by decide +kernel
theorem dX11_readsClause_125 : decode cX11_readsClause 125 = .ok (.if_icmp .ne 14, 3) := by decide +kernel
theorem dX11_readsClause_128 : decode cX11_readsClause 128 = .ok (.aload_n 0, 1) := by decide +kernel
theorem dX11_readsClause_129 : decode cX11_readsClause 129 = .ok (.getfield 16, 3) := by decide +kernel
theorem dX11_readsClause_132 : decode cX11_readsClause 132 = .ok (.iconst 2, 1) := by decide +kernel
theorem dX11_readsClause_133 : decode cX11_readsClause 133 = .ok (.iaload, 1) := by decide +kernel
theorem dX11_readsClause_134 : decode cX11_readsClause 134 = .ok (.bipush 6, 2) := by decide +kernel
theorem dX11_readsClause_136 : decode cX11_readsClause 136 = .ok (.if_icmp .eq 14, 3) := by decide +kernel
theorem dX11_readsClause_139 : decode cX11_readsClause 139 = .ok (.iload_n 1, 1) := by decide +kernel
theorem dX11_readsClause_140 : decode cX11_readsClause 140 = .ok (.bipush 104, 2) := by decide +kernel
theorem dX11_readsClause_142 : decode cX11_readsClause 142 = .ok (.if_icmp .ne 14, 3) := by decide +kernel
theorem dX11_readsClause_145 : decode cX11_readsClause 145 = .ok (.iload_n 3, 1) := by decide +kernel
theorem dX11_readsClause_146 : decode cX11_readsClause 146 = .ok (.iconst 5, 1) := by decide +kernel
theorem dX11_readsClause_147 : decode cX11_readsClause 147 = .ok (.if_icmp .ne 9, 3) := by decide +kernel
theorem dX11_readsClause_150 : decode cX11_readsClause 150 = .ok (.aload_n 0, 1) := by decide +kernel
theorem dX11_readsClause_151 : decode cX11_readsClause 151 = .ok (.iconst 3, 1) := by decide +kernel
theorem dX11_readsClause_152 : decode cX11_readsClause 152 = .ok (.invokevirtual 90, 3) := by decide +kernel
theorem dX11_readsClause_155 : decode cX11_readsClause 155 = .ok (.ireturn, 1) := by decide +kernel
theorem dX11_readsClause_156 : decode cX11_readsClause 156 = .ok (.aload_n 0, 1) := by decide +kernel
theorem dX11_readsClause_157 : decode cX11_readsClause 157 = .ok (.dup, 1) := by decide +kernel
theorem dX11_readsClause_158 : decode cX11_readsClause 158 = .ok (.getfield 76, 3) := by decide +kernel
theorem dX11_readsClause_161 : decode cX11_readsClause 161 = .ok (.iconst 1, 1) := by decide +kernel
theorem dX11_readsClause_162 : decode cX11_readsClause 162 = .ok (.iadd, 1) := by decide +kernel
theorem dX11_readsClause_163 : decode cX11_readsClause 163 = .ok (.putfield 76, 3) := by decide +kernel
theorem dX11_readsClause_166 : decode cX11_readsClause 166 = .ok (.iload_n 1, 1) := by decide +kernel
theorem dX11_readsClause_167 : decode cX11_readsClause 167 = .ok (.bipush 119, 2) := by decide +kernel
theorem dX11_readsClause_169 : decode cX11_readsClause 169 = .ok (.if_icmp .ne 8, 3) := by decide +kernel
theorem dX11_readsClause_172 : decode cX11_readsClause 172 = .ok (.aload_n 0, 1) := by decide +kernel
theorem dX11_readsClause_173 : decode cX11_readsClause 173 = .ok (.invokevirtual 100, 3) := by decide +kernel
theorem dX11_readsClause_176 : decode cX11_readsClause 176 = .ok (.ireturn, 1) := by decide +kernel
theorem dX11_readsClause_177 : decode cX11_readsClause 177 = .ok (.iload_n 1, 1) := by decide +kernel
theorem dX11_readsClause_178 : decode cX11_readsClause 178 = .ok (.bipush 102, 2) := by decide +kernel
theorem dX11_readsClause_180 : decode cX11_readsClause 180 = .ok (.if_icmp .ne 52, 3) := by decide +kernel
theorem dX11_readsClause_183 : decode cX11_readsClause 183 = .ok (.aload_n 0, 1) := by decide +kernel
theorem dX11_readsClause_184 : decode cX11_readsClause 184 = .ok (.getfield 16, 3) := by decide +kernel
theorem dX11_readsClause_187 : decode cX11_readsClause 187 = .ok (.iconst 1, 1) := by decide +kernel
theorem dX11_readsClause_188 : decode cX11_readsClause 188 = .ok (.dup2, 1) := by decide +kernel
theorem dX11_readsClause_189 : decode cX11_readsClause 189 = .ok (.iaload, 1) := by decide +kernel
theorem dX11_readsClause_190 : decode cX11_readsClause 190 = .ok (.iconst 1, 1) := by decide +kernel
theorem dX11_readsClause_191 : decode cX11_readsClause 191 = .ok (.iadd, 1) := by decide +kernel
theorem dX11_readsClause_192 : decode cX11_readsClause 192 = .ok (.iastore, 1) := by decide +kernel
theorem dX11_readsClause_193 : decode cX11_readsClause 193 = .ok (.aload_n 0, 1) := by decide +kernel
theorem dX11_readsClause_194 : decode cX11_readsClause 194 = .ok (.iconst 5, 1) := by decide +kernel
theorem dX11_readsClause_195 : decode cX11_readsClause 195 = .ok (.iload_n 2, 1) := by decide +kernel
theorem dX11_readsClause_196 : decode cX11_readsClause 196 = .ok (.iadd, 1) := by decide +kernel
theorem dX11_readsClause_197 : decode cX11_readsClause 197 = .ok (.iconst 0, 1) := by decide +kernel
theorem dX11_readsClause_198 : decode cX11_readsClause 198 = .ok (.iconst 5, 1) := by decide +kernel
theorem dX11_readsClause_199 : decode cX11_readsClause 199 = .ok (.invokevirtual 93, 3) := by decide +kernel
theorem dX11_readsClause_202 : decode cX11_readsClause 202 = .ok (.ifCond .eq 28, 3) := by decide +kernel
theorem dX11_readsClause_205 : decode cX11_readsClause 205 = .ok (.aload_n 0, 1) := by decide +kernel
theorem dX11_readsClause_206 : decode cX11_readsClause 206 = .ok (.bipush 12, 2) := by decide +kernel
theorem dX11_readsClause_208 : decode cX11_readsClause 208 = .ok (.iload_n 2, 1) := by decide +kernel
theorem dX11_readsClause_209 : decode cX11_readsClause 209 = .ok (.iadd, 1) := by decide +kernel
theorem dX11_readsClause_210 : decode cX11_readsClause 210 = .ok (.iconst 1, 1) := by decide +kernel
theorem dX11_readsClause_211 : decode cX11_readsClause 211 = .ok (.bipush 9, 2) := by decide +kernel
theorem dX11_readsClause_213 : decode cX11_readsClause 213 = .ok (.invokevirtual 93, 3) := by decide +kernel
theorem dX11_readsClause_216 : decode cX11_readsClause 216 = .ok (.ifCond .eq 14, 3) := by decide +kernel
theorem dX11_readsClause_219 : decode cX11_readsClause 219 = .ok (.aload_n 0, 1) := by decide +kernel
theorem dX11_readsClause_220 : decode cX11_readsClause 220 = .ok (.invokevirtual 96, 3) := by decide +kernel
theorem dX11_readsClause_223 : decode cX11_readsClause 223 = .ok (.ifCond .eq 7, 3) := by decide +kernel
theorem dX11_readsClause_226 : decode cX11_readsClause 226 = .ok (.iconst 1, 1) := by decide +kernel
theorem dX11_readsClause_227 : decode cX11_readsClause 227 = .ok (.goto 4, 3) := by decide +kernel
theorem dX11_readsClause_230 : decode cX11_readsClause 230 = .ok (.iconst 0, 1) := by decide +kernel
theorem dX11_readsClause_231 : decode cX11_readsClause 231 = .ok (.ireturn, 1) := by decide +kernel
theorem dX11_readsClause_232 : decode cX11_readsClause 232 = .ok (.aload_n 0, 1) := by decide +kernel
theorem dX11_readsClause_233 : decode cX11_readsClause 233 = .ok (.getfield 16, 3) := by decide +kernel
theorem dX11_readsClause_236 : decode cX11_readsClause 236 = .ok (.iconst 3, 1) := by decide +kernel
theorem dX11_readsClause_237 : decode cX11_readsClause 237 = .ok (.dup2, 1) := by decide +kernel
theorem dX11_readsClause_238 : decode cX11_readsClause 238 = .ok (.iaload, 1) := by decide +kernel
theorem dX11_readsClause_239 : decode cX11_readsClause 239 = .ok (.iconst 1, 1) := by decide +kernel
theorem dX11_readsClause_240 : decode cX11_readsClause 240 = .ok (.iadd, 1) := by decide +kernel
theorem dX11_readsClause_241 : decode cX11_readsClause 241 = .ok (.iastore, 1) := by decide +kernel
theorem dX11_readsClause_242 : decode cX11_readsClause 242 = .ok (.aload_n 0, 1) := by decide +kernel
theorem dX11_readsClause_243 : decode cX11_readsClause 243 = .ok (.bipush 43, 2) := by decide +kernel
theorem dX11_readsClause_245 : decode cX11_readsClause 245 = .ok (.iconst 2, 1) := by decide +kernel
theorem dX11_readsClause_246 : decode cX11_readsClause 246 = .ok (.iload_n 3, 1) := by decide +kernel
theorem dX11_readsClause_247 : decode cX11_readsClause 247 = .ok (.imul, 1) := by decide +kernel
theorem dX11_readsClause_248 : decode cX11_readsClause 248 = .ok (.iadd, 1) := by decide +kernel
theorem dX11_readsClause_249 : decode cX11_readsClause 249 = .ok (.iconst 0, 1) := by decide +kernel
theorem dX11_readsClause_250 : decode cX11_readsClause 250 = .ok (.bipush 6, 2) := by decide +kernel
theorem dX11_readsClause_252 : decode cX11_readsClause 252 = .ok (.invokevirtual 93, 3) := by decide +kernel
theorem dX11_readsClause_255 : decode cX11_readsClause 255 = .ok (.ifCond .eq 32, 3) := by decide +kernel
theorem dX11_readsClause_258 : decode cX11_readsClause 258 = .ok (.aload_n 0, 1) := by decide +kernel
theorem dX11_readsClause_259 : decode cX11_readsClause 259 = .ok (.bipush 43, 2) := by decide +kernel
theorem dX11_readsClause_261 : decode cX11_readsClause 261 = .ok (.iconst 2, 1) := by decide +kernel
theorem dX11_readsClause_262 : decode cX11_readsClause 262 = .ok (.iload_n 3, 1) := by decide +kernel
theorem dX11_readsClause_263 : decode cX11_readsClause 263 = .ok (.imul, 1) := by decide +kernel
theorem dX11_readsClause_264 : decode cX11_readsClause 264 = .ok (.iadd, 1) := by decide +kernel
theorem dX11_readsClause_265 : decode cX11_readsClause 265 = .ok (.iconst 1, 1) := by decide +kernel
theorem dX11_readsClause_266 : decode cX11_readsClause 266 = .ok (.iadd, 1) := by decide +kernel
theorem dX11_readsClause_267 : decode cX11_readsClause 267 = .ok (.iconst 0, 1) := by decide +kernel
theorem dX11_readsClause_268 : decode cX11_readsClause 268 = .ok (.bipush 6, 2) := by decide +kernel
theorem dX11_readsClause_270 : decode cX11_readsClause 270 = .ok (.invokevirtual 93, 3) := by decide +kernel
theorem dX11_readsClause_273 : decode cX11_readsClause 273 = .ok (.ifCond .eq 14, 3) := by decide +kernel
theorem dX11_readsClause_276 : decode cX11_readsClause 276 = .ok (.aload_n 0, 1) := by decide +kernel
theorem dX11_readsClause_277 : decode cX11_readsClause 277 = .ok (.invokevirtual 96, 3) := by decide +kernel
theorem dX11_readsClause_280 : decode cX11_readsClause 280 = .ok (.ifCond .eq 7, 3) := by decide +kernel
theorem dX11_readsClause_283 : decode cX11_readsClause 283 = .ok (.iconst 1, 1) := by decide +kernel
theorem dX11_readsClause_284 : decode cX11_readsClause 284 = .ok (.goto 4, 3) := by decide +kernel
theorem dX11_readsClause_287 : decode cX11_readsClause 287 = .ok (.iconst 0, 1) := by decide +kernel
theorem dX11_readsClause_288 : decode cX11_readsClause 288 = .ok (.ireturn, 1) := by decide +kernel
theorem dX11_reads_0 : decode cX11_reads 0 = .ok (.iconst 0, 1) := by decide +kernel
theorem dX11_reads_1 : decode cX11_reads 1 = .ok (.istore_n 1, 1) := by decide +kernel
theorem dX11_reads_2 : decode cX11_reads 2 = .ok (.iload_n 1, 1) := by decide +kernel
theorem dX11_reads_3 : decode cX11_reads 3 = .ok (.bipush 53, 2) := by decide +kernel
theorem dX11_reads_5 : decode cX11_reads 5 = .ok (.if_icmp .ge 32, 3) := by decide +kernel
theorem dX11_reads_8 : decode cX11_reads 8 = .ok (.aload_n 0, 1) := by decide +kernel
theorem dX11_reads_9 : decode cX11_reads 9 = .ok (.getfield 16, 3) := by decide +kernel
theorem dX11_reads_12 : decode cX11_reads 12 = .ok (.iload_n 1, 1) := by decide +kernel
theorem dX11_reads_13 : decode cX11_reads 13 = .ok (.iload_n 1, 1) := by decide +kernel
theorem dX11_reads_14 : decode cX11_reads 14 = .ok (.bipush 19, 2) := by decide +kernel
theorem dX11_reads_16 : decode cX11_reads 16 = .ok (.bipush 42, 2) := by decide +kernel
theorem dX11_reads_18 : decode cX11_reads 18 = .ok (.invokestatic 67, 3) := by decide +kernel
theorem dX11_reads_21 : decode cX11_reads 21 = .ok (.ifCond .eq 8, 3) := by decide +kernel
theorem dX11_reads_24 : decode cX11_reads 24 = .ok (.bipush 9, 2) := by decide +kernel
theorem dX11_reads_26 : decode cX11_reads 26 = .ok (.goto 4, 3) := by decide +kernel
theorem dX11_reads_29 : decode cX11_reads 29 = .ok (.iconst 0, 1) := by decide +kernel
theorem dX11_reads_30 : decode cX11_reads 30 = .ok (.iastore, 1) := by decide +kernel
theorem dX11_reads_31 : decode cX11_reads 31 = .ok (.iinc 1 1, 3) := by decide +kernel
theorem dX11_reads_34 : decode cX11_reads 34 = .ok (.goto (-32), 3) := by decide +kernel
theorem dX11_reads_37 : decode cX11_reads 37 = .ok (.aload_n 0, 1) := by decide +kernel
theorem dX11_reads_38 : decode cX11_reads 38 = .ok (.iconst 0, 1) := by decide +kernel
theorem dX11_reads_39 : decode cX11_reads 39 = .ok (.putfield 76, 3) := by decide +kernel
theorem dX11_reads_42 : decode cX11_reads 42 = .ok (.aload_n 0, 1) := by decide +kernel
theorem dX11_reads_43 : decode cX11_reads 43 = .ok (.invokevirtual 82, 3) := by decide +kernel
theorem dX11_reads_46 : decode cX11_reads 46 = .ok (.istore_n 1, 1) := by decide +kernel
theorem dX11_reads_47 : decode cX11_reads 47 = .ok (.iload_n 1, 1) := by decide +kernel
theorem dX11_reads_48 : decode cX11_reads 48 = .ok (.ifCond .lt 21, 3) := by decide +kernel
theorem dX11_reads_51 : decode cX11_reads 51 = .ok (.aload_n 0, 1) := by decide +kernel
theorem dX11_reads_52 : decode cX11_reads 52 = .ok (.iload_n 1, 1) := by decide +kernel
theorem dX11_reads_53 : decode cX11_reads 53 = .ok (.invokevirtual 103, 3) := by decide +kernel
theorem dX11_reads_56 : decode cX11_reads 56 = .ok (.ifCond .ne 5, 3) := by decide +kernel
theorem dX11_reads_59 : decode cX11_reads 59 = .ok (.iconst 0, 1) := by decide +kernel
theorem dX11_reads_60 : decode cX11_reads 60 = .ok (.ireturn, 1) := by decide +kernel
theorem dX11_reads_61 : decode cX11_reads 61 = .ok (.aload_n 0, 1) := by decide +kernel
theorem dX11_reads_62 : decode cX11_reads 62 = .ok (.invokevirtual 82, 3) := by decide +kernel
theorem dX11_reads_65 : decode cX11_reads 65 = .ok (.istore_n 1, 1) := by decide +kernel
theorem dX11_reads_66 : decode cX11_reads 66 = .ok (.goto (-19), 3) := by decide +kernel
theorem dX11_reads_69 : decode cX11_reads 69 = .ok (.iconst 1, 1) := by decide +kernel
theorem dX11_reads_70 : decode cX11_reads 70 = .ok (.ireturn, 1) := by decide +kernel
theorem dX11_cord_0 : decode cX11_cord 0 = .ok (.aload_n 0, 1) := by decide +kernel
theorem dX11_cord_1 : decode cX11_cord 1 = .ok (.invokevirtual 106, 3) := by decide +kernel
theorem dX11_cord_4 : decode cX11_cord 4 = .ok (.istore_n 1, 1) := by decide +kernel
theorem dX11_cord_5 : decode cX11_cord 5 = .ok (.aload_n 0, 1) := by decide +kernel
theorem dX11_cord_6 : decode cX11_cord 6 = .ok (.iconst 0, 1) := by decide +kernel
theorem dX11_cord_7 : decode cX11_cord 7 = .ok (.putfield 72, 3) := by decide +kernel
theorem dX11_cord_10 : decode cX11_cord 10 = .ok (.aload_n 0, 1) := by decide +kernel
theorem dX11_cord_11 : decode cX11_cord 11 = .ok (.iload_n 1, 1) := by decide +kernel
theorem dX11_cord_12 : decode cX11_cord 12 = .ok (.ifCond .eq 7, 3) := by decide +kernel
theorem dX11_cord_15 : decode cX11_cord 15 = .ok (.iconst (-1), 1) := by decide +kernel
theorem dX11_cord_16 : decode cX11_cord 16 = .ok (.goto 7, 3) := by decide +kernel
theorem dX11_cord_19 : decode cX11_cord 19 = .ok (.aload_n 0, 1) := by decide +kernel
theorem dX11_cord_20 : decode cX11_cord 20 = .ok (.getfield 76, 3) := by decide +kernel
theorem dX11_cord_23 : decode cX11_cord 23 = .ok (.putfield 38, 3) := by decide +kernel
theorem dX11_cord_26 : decode cX11_cord 26 = .ok (.iload_n 1, 1) := by decide +kernel
theorem dX11_cord_27 : decode cX11_cord 27 = .ok (.ifCond .ne 11, 3) := by decide +kernel
theorem dX11_cord_30 : decode cX11_cord 30 = .ok (.bipush (-10), 2) := by decide +kernel
theorem dX11_cord_32 : decode cX11_cord 32 = .ok (.aload_n 0, 1) := by decide +kernel
theorem dX11_cord_33 : decode cX11_cord 33 = .ok (.getfield 79, 3) := by decide +kernel
theorem dX11_cord_36 : decode cX11_cord 36 = .ok (.isub, 1) := by decide +kernel
theorem dX11_cord_37 : decode cX11_cord 37 = .ok (.ireturn, 1) := by decide +kernel
theorem dX11_cord_38 : decode cX11_cord 38 = .ok (.iconst 0, 1) := by decide +kernel
theorem dX11_cord_39 : decode cX11_cord 39 = .ok (.istore_n 2, 1) := by decide +kernel
theorem dX11_cord_40 : decode cX11_cord 40 = .ok (.iload_n 2, 1) := by decide +kernel
theorem dX11_cord_41 : decode cX11_cord 41 = .ok (.bipush 53, 2) := by decide +kernel
theorem dX11_cord_43 : decode cX11_cord 43 = .ok (.if_icmp .ge 21, 3) := by decide +kernel
theorem dX11_cord_46 : decode cX11_cord 46 = .ok (.aload_n 0, 1) := by decide +kernel
theorem dX11_cord_47 : decode cX11_cord 47 = .ok (.getfield 13, 3) := by decide +kernel
theorem dX11_cord_50 : decode cX11_cord 50 = .ok (.iload_n 2, 1) := by decide +kernel
theorem dX11_cord_51 : decode cX11_cord 51 = .ok (.aload_n 0, 1) := by decide +kernel
theorem dX11_cord_52 : decode cX11_cord 52 = .ok (.getfield 16, 3) := by decide +kernel
theorem dX11_cord_55 : decode cX11_cord 55 = .ok (.iload_n 2, 1) := by decide +kernel
theorem dX11_cord_56 : decode cX11_cord 56 = .ok (.iaload, 1) := by decide +kernel
theorem dX11_cord_57 : decode cX11_cord 57 = .ok (.iastore, 1) := by decide +kernel
theorem dX11_cord_58 : decode cX11_cord 58 = .ok (.iinc 2 1, 3) := by decide +kernel
theorem dX11_cord_61 : decode cX11_cord 61 = .ok (.goto (-21), 3) := by decide +kernel
theorem dX11_cord_64 : decode cX11_cord 64 = .ok (.iconst 0, 1) := by decide +kernel
theorem dX11_cord_65 : decode cX11_cord 65 = .ok (.istore_n 2, 1) := by decide +kernel
theorem dX11_cord_66 : decode cX11_cord 66 = .ok (.iload_n 2, 1) := by decide +kernel
theorem dX11_cord_67 : decode cX11_cord 67 = .ok (.bipush 25, 2) := by decide +kernel
theorem dX11_cord_69 : decode cX11_cord 69 = .ok (.if_icmp .ge 32, 3) := by decide +kernel
theorem dX11_cord_72 : decode cX11_cord 72 = .ok (.aload_n 0, 1) := by decide +kernel
theorem dX11_cord_73 : decode cX11_cord 73 = .ok (.getfield 19, 3) := by decide +kernel
theorem dX11_cord_76 : decode cX11_cord 76 = .ok (.iload_n 2, 1) := by decide +kernel
theorem dX11_cord_77 : decode cX11_cord 77 = .ok (.iload_n 2, 1) := by decide +kernel
theorem dX11_cord_78 : decode cX11_cord 78 = .ok (.iconst 4, 1) := by decide +kernel
theorem dX11_cord_79 : decode cX11_cord 79 = .ok (.bipush 10, 2) := by decide +kernel
theorem dX11_cord_81 : decode cX11_cord 81 = .ok (.invokestatic 67, 3) := by decide +kernel
theorem dX11_cord_84 : decode cX11_cord 84 = .ok (.ifCond .eq 9, 3) := by decide +kernel
theorem dX11_cord_87 : decode cX11_cord 87 = .ok (.iload_n 2, 1) := by decide +kernel
theorem dX11_cord_88 : decode cX11_cord 88 = .ok (.iconst 4, 1) := by decide +kernel
theorem dX11_cord_89 : decode cX11_cord 89 = .ok (.isub, 1) := by decide +kernel
theorem dX11_cord_90 : decode cX11_cord 90 = .ok (.goto 4, 3) := by decide +kernel
theorem dX11_cord_93 : decode cX11_cord 93 = .ok (.iconst 0, 1) := by decide +kernel
theorem dX11_cord_94 : decode cX11_cord 94 = .ok (.iastore, 1) := by decide +kernel
theorem dX11_cord_95 : decode cX11_cord 95 = .ok (.iinc 2 1, 3) := by decide +kernel
theorem dX11_cord_98 : decode cX11_cord 98 = .ok (.goto (-32), 3) := by decide +kernel
theorem dX11_cord_101 : decode cX11_cord 101 = .ok (.aload_n 0, 1) := by decide +kernel
theorem dX11_cord_102 : decode cX11_cord 102 = .ok (.getfield 19, 3) := by decide +kernel
theorem dX11_cord_105 : decode cX11_cord 105 = .ok (.iconst 1, 1) := by decide +kernel
theorem dX11_cord_106 : decode cX11_cord 106 = .ok (.aload_n 0, 1) := by decide +kernel
theorem dX11_cord_107 : decode cX11_cord 107 = .ok (.getfield 13, 3) := by decide +kernel
theorem dX11_cord_110 : decode cX11_cord 110 = .ok (.iconst 4, 1) := by decide +kernel
theorem dX11_cord_111 : decode cX11_cord 111 = .ok (.iaload, 1) := by decide +kernel
theorem dX11_cord_112 : decode cX11_cord 112 = .ok (.iastore, 1) := by decide +kernel
theorem dX11_cord_113 : decode cX11_cord 113 = .ok (.aload_n 0, 1) := by decide +kernel
theorem dX11_cord_114 : decode cX11_cord 114 = .ok (.getfield 19, 3) := by decide +kernel
theorem dX11_cord_117 : decode cX11_cord 117 = .ok (.iconst 2, 1) := by decide +kernel
theorem dX11_cord_118 : decode cX11_cord 118 = .ok (.aload_n 0, 1) := by decide +kernel
theorem dX11_cord_119 : decode cX11_cord 119 = .ok (.getfield 13, 3) := by decide +kernel
theorem dX11_cord_122 : decode cX11_cord 122 = .ok (.iconst 1, 1) := by decide +kernel
theorem dX11_cord_123 : decode cX11_cord 123 = .ok (.iaload, 1) := by decide +kernel
theorem dX11_cord_124 : decode cX11_cord 124 = .ok (.iastore, 1) := by decide +kernel
theorem dX11_cord_125 : decode cX11_cord 125 = .ok (.aload_n 0, 1) := by decide +kernel
theorem dX11_cord_126 : decode cX11_cord 126 = .ok (.iconst 0, 1) := by decide +kernel
theorem dX11_cord_127 : decode cX11_cord 127 = .ok (.putfield 109, 3) := by decide +kernel
theorem dX11_cord_130 : decode cX11_cord 130 = .ok (.aload_n 0, 1) := by decide +kernel
theorem dX11_cord_131 : decode cX11_cord 131 = .ok (.iconst 0, 1) := by decide +kernel
theorem dX11_cord_132 : decode cX11_cord 132 = .ok (.putfield 112, 3) := by decide +kernel
theorem dX11_cord_135 : decode cX11_cord 135 = .ok (.aload_n 0, 1) := by decide +kernel
theorem dX11_cord_136 : decode cX11_cord 136 = .ok (.iconst 0, 1) := by decide +kernel
theorem dX11_cord_137 : decode cX11_cord 137 = .ok (.putfield 115, 3) := by decide +kernel
theorem dX11_cord_140 : decode cX11_cord 140 = .ok (.aload_n 0, 1) := by decide +kernel
theorem dX11_cord_141 : decode cX11_cord 141 = .ok (.getfield 28, 3) := by decide +kernel
theorem dX11_cord_144 : decode cX11_cord 144 = .ok (.iconst 0, 1) := by decide +kernel
theorem dX11_cord_145 : decode cX11_cord 145 = .ok (.iconst 0, 1) := by decide +kernel
theorem dX11_cord_146 : decode cX11_cord 146 = .ok (.bastore, 1) := by decide +kernel
theorem dX11_cord_147 : decode cX11_cord 147 = .ok (.aload_n 0, 1) := by decide +kernel
theorem dX11_cord_148 : decode cX11_cord 148 = .ok (.getfield 28, 3) := by decide +kernel
theorem dX11_cord_151 : decode cX11_cord 151 = .ok (.iconst 1, 1) := by decide +kernel
theorem dX11_cord_152 : decode cX11_cord 152 = .ok (.iconst 0, 1) := by decide +kernel
theorem dX11_cord_153 : decode cX11_cord 153 = .ok (.bastore, 1) := by decide +kernel
theorem dX11_cord_154 : decode cX11_cord 154 = .ok (.aload_n 0, 1) := by decide +kernel
theorem dX11_cord_155 : decode cX11_cord 155 = .ok (.getfield 13, 3) := by decide +kernel
theorem dX11_cord_158 : decode cX11_cord 158 = .ok (.iconst 1, 1) := by decide +kernel
theorem dX11_cord_159 : decode cX11_cord 159 = .ok (.iaload, 1) := by decide +kernel
theorem dX11_cord_160 : decode cX11_cord 160 = .ok (.ireturn, 1) := by decide +kernel
theorem dX11_fault_0 : decode cX11_fault 0 = .ok (.aload_n 0, 1) := by decide +kernel
theorem dX11_fault_1 : decode cX11_fault 1 = .ok (.getfield 38, 3) := by decide +kernel
theorem dX11_fault_4 : decode cX11_fault 4 = .ok (.ireturn, 1) := by decide +kernel
theorem dX11_placeOf_0 : decode cX11_placeOf 0 = .ok (.iconst (-1), 1) := by decide +kernel
theorem dX11_placeOf_1 : decode cX11_placeOf 1 = .ok (.istore_n 2, 1) := by decide +kernel
theorem dX11_placeOf_2 : decode cX11_placeOf 2 = .ok (.iconst 0, 1) := by decide +kernel
theorem dX11_placeOf_3 : decode cX11_placeOf 3 = .ok (.istore_n 3, 1) := by decide +kernel
theorem dX11_placeOf_4 : decode cX11_placeOf 4 = .ok (.iload_n 3, 1) := by decide +kernel
theorem dX11_placeOf_5 : decode cX11_placeOf 5 = .ok (.aload_n 0, 1) := by decide +kernel
theorem dX11_placeOf_6 : decode cX11_placeOf 6 = .ok (.getfield 19, 3) := by decide +kernel
theorem dX11_placeOf_9 : decode cX11_placeOf 9 = .ok (.iconst 2, 1) := by decide +kernel
theorem dX11_placeOf_10 : decode cX11_placeOf 10 = .ok (.iaload, 1) := by decide +kernel
theorem dX11_placeOf_11 : decode cX11_placeOf 11 = .ok (.if_icmp .ge 27, 3) := by decide +kernel
theorem dX11_placeOf_14 : decode cX11_placeOf 14 = .ok (.aload_n 0, 1) := by decide +kernel
theorem dX11_placeOf_15 : decode cX11_placeOf 15 = .ok (.getfield 19, 3) := by decide +kernel
theorem dX11_placeOf_18 : decode cX11_placeOf 18 = .ok (.iconst 4, 1) := by decide +kernel
theorem dX11_placeOf_19 : decode cX11_placeOf 19 = .ok (.iload_n 3, 1) := by decide +kernel
theorem dX11_placeOf_20 : decode cX11_placeOf 20 = .ok (.iadd, 1) := by decide +kernel
theorem dX11_placeOf_21 : decode cX11_placeOf 21 = .ok (.iaload, 1) := by decide +kernel
theorem dX11_placeOf_22 : decode cX11_placeOf 22 = .ok (.iload_n 1, 1) := by decide +kernel
theorem dX11_placeOf_23 : decode cX11_placeOf 23 = .ok (.if_icmp .ne 7, 3) := by decide +kernel
theorem dX11_placeOf_26 : decode cX11_placeOf 26 = .ok (.iload_n 3, 1) := by decide +kernel
theorem dX11_placeOf_27 : decode cX11_placeOf 27 = .ok (.goto 4, 3) := by decide +kernel
theorem dX11_placeOf_30 : decode cX11_placeOf 30 = .ok (.iload_n 2, 1) := by decide +kernel
theorem dX11_placeOf_31 : decode cX11_placeOf 31 = .ok (.istore_n 2, 1) := by decide +kernel
theorem dX11_placeOf_32 : decode cX11_placeOf 32 = .ok (.iinc 3 1, 3) := by decide +kernel
theorem dX11_placeOf_35 : decode cX11_placeOf 35 = .ok (.goto (-31), 3) := by decide +kernel
theorem dX11_placeOf_38 : decode cX11_placeOf 38 = .ok (.iload_n 2, 1) := by decide +kernel
theorem dX11_placeOf_39 : decode cX11_placeOf 39 = .ok (.ireturn, 1) := by decide +kernel
theorem dX11_isOut_0 : decode cX11_isOut 0 = .ok (.aload_n 0, 1) := by decide +kernel
theorem dX11_isOut_1 : decode cX11_isOut 1 = .ok (.getfield 19, 3) := by decide +kernel
theorem dX11_isOut_4 : decode cX11_isOut 4 = .ok (.iconst 3, 1) := by decide +kernel
theorem dX11_isOut_5 : decode cX11_isOut 5 = .ok (.iaload, 1) := by decide +kernel
theorem dX11_isOut_6 : decode cX11_isOut 6 = .ok (.iload_n 1, 1) := by decide +kernel
theorem dX11_isOut_7 : decode cX11_isOut 7 = .ok (.invokestatic 118, 3) := by decide +kernel
theorem dX11_isOut_10 : decode cX11_isOut 10 = .ok (.istore_n 2, 1) := by decide +kernel
theorem dX11_isOut_11 : decode cX11_isOut 11 = .ok (.aload_n 0, 1) := by decide +kernel
theorem dX11_isOut_12 : decode cX11_isOut 12 = .ok (.getfield 13, 3) := by decide +kernel
theorem dX11_isOut_15 : decode cX11_isOut 15 = .ok (.iconst 5, 1) := by decide +kernel
theorem dX11_isOut_16 : decode cX11_isOut 16 = .ok (.iload_n 1, 1) := by decide +kernel
theorem dX11_isOut_17 : decode cX11_isOut 17 = .ok (.iadd, 1) := by decide +kernel
theorem dX11_isOut_18 : decode cX11_isOut 18 = .ok (.iaload, 1) := by decide +kernel
theorem dX11_isOut_19 : decode cX11_isOut 19 = .ok (.lookupswitch 68 #[(4, 40), (5, 25)], 25) := by decide +kernel
theorem dX11_isOut_44 : decode cX11_isOut 44 = .ok (.aload_n 0, 1) := by decide +kernel
theorem dX11_isOut_45 : decode cX11_isOut 45 = .ok (.getfield 19, 3) := by decide +kernel
theorem dX11_isOut_48 : decode cX11_isOut 48 = .ok (.iconst 1, 1) := by decide +kernel
theorem dX11_isOut_49 : decode cX11_isOut 49 = .ok (.iaload, 1) := by decide +kernel
theorem dX11_isOut_50 : decode cX11_isOut 50 = .ok (.ifCond .le 7, 3) := by decide +kernel
theorem dX11_isOut_53 : decode cX11_isOut 53 = .ok (.iconst 1, 1) := by decide +kernel
theorem dX11_isOut_54 : decode cX11_isOut 54 = .ok (.goto 4, 3) := by decide +kernel
theorem dX11_isOut_57 : decode cX11_isOut 57 = .ok (.iconst 0, 1) := by decide +kernel
theorem dX11_isOut_58 : decode cX11_isOut 58 = .ok (.ireturn, 1) := by decide +kernel
theorem dX11_isOut_59 : decode cX11_isOut 59 = .ok (.iload_n 2, 1) := by decide +kernel
theorem dX11_isOut_60 : decode cX11_isOut 60 = .ok (.ifCond .ne 25, 3) := by decide +kernel
theorem dX11_isOut_63 : decode cX11_isOut 63 = .ok (.aload_n 0, 1) := by decide +kernel
theorem dX11_isOut_64 : decode cX11_isOut 64 = .ok (.getfield 19, 3) := by decide +kernel
theorem dX11_isOut_67 : decode cX11_isOut 67 = .ok (.iconst 1, 1) := by decide +kernel
theorem dX11_isOut_68 : decode cX11_isOut 68 = .ok (.iaload, 1) := by decide +kernel
theorem dX11_isOut_69 : decode cX11_isOut 69 = .ok (.aload_n 0, 1) := by decide +kernel
theorem dX11_isOut_70 : decode cX11_isOut 70 = .ok (.getfield 13, 3) := by decide +kernel
theorem dX11_isOut_73 : decode cX11_isOut 73 = .ok (.bipush 12, 2) := by decide +kernel
theorem dX11_isOut_75 : decode cX11_isOut 75 = .ok (.iload_n 1, 1) := by decide +kernel
theorem dX11_isOut_76 : decode cX11_isOut 76 = .ok (.iadd, 1) := by decide +kernel
theorem dX11_isOut_77 : decode cX11_isOut 77 = .ok (.iaload, 1) := by decide +kernel
theorem dX11_isOut_78 : decode cX11_isOut 78 = .ok (.if_icmp .lt 7, 3) := by decide +kernel
theorem dX11_isOut_81 : decode cX11_isOut 81 = .ok (.iconst 1, 1) := by decide +kernel
theorem dX11_isOut_82 : decode cX11_isOut 82 = .ok (.goto 4, 3) := by decide +kernel
theorem dX11_isOut_85 : decode cX11_isOut 85 = .ok (.iconst 0, 1) := by decide +kernel
theorem dX11_isOut_86 : decode cX11_isOut 86 = .ok (.ireturn, 1) := by decide +kernel
theorem dX11_isOut_87 : decode cX11_isOut 87 = .ok (.aload_n 0, 1) := by decide +kernel
theorem dX11_isOut_88 : decode cX11_isOut 88 = .ok (.getfield 19, 3) := by decide +kernel
theorem dX11_isOut_91 : decode cX11_isOut 91 = .ok (.iconst 1, 1) := by decide +kernel
theorem dX11_isOut_92 : decode cX11_isOut 92 = .ok (.iaload, 1) := by decide +kernel
theorem dX11_isOut_93 : decode cX11_isOut 93 = .ok (.aload_n 0, 1) := by decide +kernel
theorem dX11_isOut_94 : decode cX11_isOut 94 = .ok (.getfield 13, 3) := by decide +kernel
theorem dX11_isOut_97 : decode cX11_isOut 97 = .ok (.bipush 12, 2) := by decide +kernel
theorem dX11_isOut_99 : decode cX11_isOut 99 = .ok (.iload_n 1, 1) := by decide +kernel
theorem dX11_isOut_100 : decode cX11_isOut 100 = .ok (.iadd, 1) := by decide +kernel
theorem dX11_isOut_101 : decode cX11_isOut 101 = .ok (.iaload, 1) := by decide +kernel
theorem dX11_isOut_102 : decode cX11_isOut 102 = .ok (.iload_n 2, 1) := by decide +kernel
theorem dX11_isOut_103 : decode cX11_isOut 103 = .ok (.ifCond .eq 7, 3) := by decide +kernel
theorem dX11_isOut_106 : decode cX11_isOut 106 = .ok (.iconst 2, 1) := by decide +kernel
theorem dX11_isOut_107 : decode cX11_isOut 107 = .ok (.goto 4, 3) := by decide +kernel
theorem dX11_isOut_110 : decode cX11_isOut 110 = .ok (.iconst 0, 1) := by decide +kernel
theorem dX11_isOut_111 : decode cX11_isOut 111 = .ok (.iadd, 1) := by decide +kernel
theorem dX11_isOut_112 : decode cX11_isOut 112 = .ok (.if_icmp .lt 7, 3) := by decide +kernel
theorem dX11_isOut_115 : decode cX11_isOut 115 = .ok (.iconst 1, 1) := by decide +kernel
theorem dX11_isOut_116 : decode cX11_isOut 116 = .ok (.goto 4, 3) := by decide +kernel
theorem dX11_isOut_119 : decode cX11_isOut 119 = .ok (.iconst 0, 1) := by decide +kernel
theorem dX11_isOut_120 : decode cX11_isOut 120 = .ok (.ireturn, 1) := by decide +kernel
theorem dX11_onIt_0 : decode cX11_onIt 0 = .ok (.iconst 0, 1) := by decide +kernel
theorem dX11_onIt_1 : decode cX11_onIt 1 = .ok (.istore_n 1, 1) := by decide +kernel
theorem dX11_onIt_2 : decode cX11_onIt 2 = .ok (.iconst 0, 1) := by decide +kernel
theorem dX11_onIt_3 : decode cX11_onIt 3 = .ok (.istore_n 2, 1) := by decide +kernel
theorem dX11_onIt_4 : decode cX11_onIt 4 = .ok (.iload_n 2, 1) := by decide +kernel
theorem dX11_onIt_5 : decode cX11_onIt 5 = .ok (.aload_n 0, 1) := by decide +kernel
theorem dX11_onIt_6 : decode cX11_onIt 6 = .ok (.getfield 19, 3) := by decide +kernel
theorem dX11_onIt_9 : decode cX11_onIt 9 = .ok (.iconst 2, 1) := by decide +kernel
theorem dX11_onIt_10 : decode cX11_onIt 10 = .ok (.iaload, 1) := by decide +kernel
theorem dX11_onIt_11 : decode cX11_onIt 11 = .ok (.if_icmp .ge 22, 3) := by decide +kernel
theorem dX11_onIt_14 : decode cX11_onIt 14 = .ok (.iload_n 1, 1) := by decide +kernel
theorem dX11_onIt_15 : decode cX11_onIt 15 = .ok (.iconst 1, 1) := by decide +kernel
theorem dX11_onIt_16 : decode cX11_onIt 16 = .ok (.aload_n 0, 1) := by decide +kernel
theorem dX11_onIt_17 : decode cX11_onIt 17 = .ok (.getfield 19, 3) := by decide +kernel
theorem dX11_onIt_20 : decode cX11_onIt 20 = .ok (.iconst 4, 1) := by decide +kernel
theorem dX11_onIt_21 : decode cX11_onIt 21 = .ok (.iload_n 2, 1) := by decide +kernel
theorem dX11_onIt_22 : decode cX11_onIt 22 = .ok (.iadd, 1) := by decide +kernel
theorem dX11_onIt_23 : decode cX11_onIt 23 = .ok (.iaload, 1) := by decide +kernel
theorem dX11_onIt_24 : decode cX11_onIt 24 = .ok (.ishl, 1) := by decide +kernel
theorem dX11_onIt_25 : decode cX11_onIt 25 = .ok (.ior, 1) := by decide +kernel
theorem dX11_onIt_26 : decode cX11_onIt 26 = .ok (.istore_n 1, 1) := by decide +kernel
theorem dX11_onIt_27 : decode cX11_onIt 27 = .ok (.iinc 2 1, 3) := by decide +kernel
theorem dX11_onIt_30 : decode cX11_onIt 30 = .ok (.goto (-26), 3) := by decide +kernel
theorem dX11_onIt_33 : decode cX11_onIt 33 = .ok (.iload_n 1, 1) := by decide +kernel
theorem dX11_onIt_34 : decode cX11_onIt 34 = .ok (.ireturn, 1) := by decide +kernel
theorem dX11_outs_0 : decode cX11_outs 0 = .ok (.iconst 0, 1) := by decide +kernel
theorem dX11_outs_1 : decode cX11_outs 1 = .ok (.istore_n 1, 1) := by decide +kernel
theorem dX11_outs_2 : decode cX11_outs 2 = .ok (.iconst 0, 1) := by decide +kernel
theorem dX11_outs_3 : decode cX11_outs 3 = .ok (.istore_n 2, 1) := by decide +kernel
theorem dX11_outs_4 : decode cX11_outs 4 = .ok (.iload_n 2, 1) := by decide +kernel
theorem dX11_outs_5 : decode cX11_outs 5 = .ok (.aload_n 0, 1) := by decide +kernel
theorem dX11_outs_6 : decode cX11_outs 6 = .ok (.getfield 19, 3) := by decide +kernel
theorem dX11_outs_9 : decode cX11_outs 9 = .ok (.iconst 2, 1) := by decide +kernel
theorem dX11_outs_10 : decode cX11_outs 10 = .ok (.iaload, 1) := by decide +kernel
theorem dX11_outs_11 : decode cX11_outs 11 = .ok (.if_icmp .ge 41, 3) := by decide +kernel
theorem dX11_outs_14 : decode cX11_outs 14 = .ok (.iload_n 1, 1) := by decide +kernel
theorem dX11_outs_15 : decode cX11_outs 15 = .ok (.aload_n 0, 1) := by decide +kernel
theorem dX11_outs_16 : decode cX11_outs 16 = .ok (.aload_n 0, 1) := by decide +kernel
theorem dX11_outs_17 : decode cX11_outs 17 = .ok (.getfield 19, 3) := by decide +kernel
theorem dX11_outs_20 : decode cX11_outs 20 = .ok (.iconst 4, 1) := by decide +kernel
theorem dX11_outs_21 : decode cX11_outs 21 = .ok (.iload_n 2, 1) := by decide +kernel
theorem dX11_outs_22 : decode cX11_outs 22 = .ok (.iadd, 1) := by decide +kernel
theorem dX11_outs_23 : decode cX11_outs 23 = .ok (.iaload, 1) := by decide +kernel
theorem dX11_outs_24 : decode cX11_outs 24 = .ok (.invokevirtual 122, 3) := by decide +kernel
theorem dX11_outs_27 : decode cX11_outs 27 = .ok (.ifCond .eq 16, 3) := by decide +kernel
theorem dX11_outs_30 : decode cX11_outs 30 = .ok (.iconst 1, 1) := by decide +kernel
theorem dX11_outs_31 : decode cX11_outs 31 = .ok (.aload_n 0, 1) := by decide +kernel
theorem dX11_outs_32 : decode cX11_outs 32 = .ok (.getfield 19, 3) := by decide +kernel
theorem dX11_outs_35 : decode cX11_outs 35 = .ok (.iconst 4, 1) := by decide +kernel
theorem dX11_outs_36 : decode cX11_outs 36 = .ok (.iload_n 2, 1) := by decide +kernel
theorem dX11_outs_37 : decode cX11_outs 37 = .ok (.iadd, 1) := by decide +kernel
theorem dX11_outs_38 : decode cX11_outs 38 = .ok (.iaload, 1) := by decide +kernel
theorem dX11_outs_39 : decode cX11_outs 39 = .ok (.ishl, 1) := by decide +kernel
theorem dX11_outs_40 : decode cX11_outs 40 = .ok (.goto 4, 3) := by decide +kernel
theorem dX11_outs_43 : decode cX11_outs 43 = .ok (.iconst 0, 1) := by decide +kernel
theorem dX11_outs_44 : decode cX11_outs 44 = .ok (.ior, 1) := by decide +kernel
theorem dX11_outs_45 : decode cX11_outs 45 = .ok (.istore_n 1, 1) := by decide +kernel
theorem dX11_outs_46 : decode cX11_outs 46 = .ok (.iinc 2 1, 3) := by decide +kernel
theorem dX11_outs_49 : decode cX11_outs 49 = .ok (.goto (-45), 3) := by decide +kernel
theorem dX11_outs_52 : decode cX11_outs 52 = .ok (.iload_n 1, 1) := by decide +kernel
theorem dX11_outs_53 : decode cX11_outs 53 = .ok (.ireturn, 1) := by decide +kernel
theorem dX11_crossed_0 : decode cX11_crossed 0 = .ok (.iconst 0, 1) := by decide +kernel
theorem dX11_crossed_1 : decode cX11_crossed 1 = .ok (.istore_n 1, 1) := by decide +kernel
theorem dX11_crossed_2 : decode cX11_crossed 2 = .ok (.iconst 0, 1) := by decide +kernel
theorem dX11_crossed_3 : decode cX11_crossed 3 = .ok (.istore_n 2, 1) := by decide +kernel
theorem dX11_crossed_4 : decode cX11_crossed 4 = .ok (.iload_n 2, 1) := by decide +kernel
theorem dX11_crossed_5 : decode cX11_crossed 5 = .ok (.aload_n 0, 1) := by decide +kernel
theorem dX11_crossed_6 : decode cX11_crossed 6 = .ok (.getfield 19, 3) := by decide +kernel
theorem dX11_crossed_9 : decode cX11_crossed 9 = .ok (.iconst 2, 1) := by decide +kernel
theorem dX11_crossed_10 : decode cX11_crossed 10 = .ok (.iaload, 1) := by decide +kernel
theorem dX11_crossed_11 : decode cX11_crossed 11 = .ok (.if_icmp .ge 56, 3) := by decide +kernel
theorem dX11_crossed_14 : decode cX11_crossed 14 = .ok (.iload_n 2, 1) := by decide +kernel
theorem dX11_crossed_15 : decode cX11_crossed 15 = .ok (.iconst 1, 1) := by decide +kernel
theorem dX11_crossed_16 : decode cX11_crossed 16 = .ok (.iadd, 1) := by decide +kernel
theorem dX11_crossed_17 : decode cX11_crossed 17 = .ok (.istore_n 3, 1) := by decide +kernel
theorem dX11_crossed_18 : decode cX11_crossed 18 = .ok (.iload_n 3, 1) := by decide +kernel
theorem dX11_crossed_19 : decode cX11_crossed 19 = .ok (.aload_n 0, 1) := by decide +kernel
theorem dX11_crossed_20 : decode cX11_crossed 20 = .ok (.getfield 19, 3) := by decide +kernel
theorem dX11_crossed_23 : decode cX11_crossed 23 = .ok (.iconst 2, 1) := by decide +kernel
theorem dX11_crossed_24 : decode cX11_crossed 24 = .ok (.iaload, 1) := by decide +kernel
theorem dX11_crossed_25 : decode cX11_crossed 25 = .ok (.if_icmp .ge 36, 3) := by decide +kernel
theorem dX11_crossed_28 : decode cX11_crossed 28 = .ok (.iload_n 1, 1) := by decide +kernel
theorem dX11_crossed_29 : decode cX11_crossed 29 = .ok (.aload_n 0, 1) := by decide +kernel
theorem dX11_crossed_30 : decode cX11_crossed 30 = .ok (.getfield 19, 3) := by decide +kernel
theorem dX11_crossed_33 : decode cX11_crossed 33 = .ok (.iconst 4, 1) := by decide +kernel
theorem dX11_crossed_34 : decode cX11_crossed 34 = .ok (.iload_n 2, 1) := by decide +kernel
theorem dX11_crossed_35 : decode cX11_crossed 35 = .ok (.iadd, 1) := by decide +kernel
theorem dX11_crossed_36 : decode cX11_crossed 36 = .ok (.iaload, 1) := by decide +kernel
theorem dX11_crossed_37 : decode cX11_crossed 37 = .ok (.aload_n 0, 1) := by decide +kernel
theorem dX11_crossed_38 : decode cX11_crossed 38 = .ok (.getfield 19, 3) := by decide +kernel
theorem dX11_crossed_41 : decode cX11_crossed 41 = .ok (.iconst 4, 1) := by decide +kernel
theorem dX11_crossed_42 : decode cX11_crossed 42 = .ok (.iload_n 3, 1) := by decide +kernel
theorem dX11_crossed_43 : decode cX11_crossed 43 = .ok (.iadd, 1) := by decide +kernel
theorem dX11_crossed_44 : decode cX11_crossed 44 = .ok (.iaload, 1) := by decide +kernel
theorem dX11_crossed_45 : decode cX11_crossed 45 = .ok (.if_icmp .le 7, 3) := by decide +kernel
theorem dX11_crossed_48 : decode cX11_crossed 48 = .ok (.iconst 1, 1) := by decide +kernel
theorem dX11_crossed_49 : decode cX11_crossed 49 = .ok (.goto 4, 3) := by decide +kernel
theorem dX11_crossed_52 : decode cX11_crossed 52 = .ok (.iconst 0, 1) := by decide +kernel
theorem dX11_crossed_53 : decode cX11_crossed 53 = .ok (.iadd, 1) := by decide +kernel
theorem dX11_crossed_54 : decode cX11_crossed 54 = .ok (.istore_n 1, 1) := by decide +kernel
theorem dX11_crossed_55 : decode cX11_crossed 55 = .ok (.iinc 3 1, 3) := by decide +kernel
theorem dX11_crossed_58 : decode cX11_crossed 58 = .ok (.goto (-40), 3) := by decide +kernel
theorem dX11_crossed_61 : decode cX11_crossed 61 = .ok (.iinc 2 1, 3) := by decide +kernel
theorem dX11_crossed_64 : decode cX11_crossed 64 = .ok (.goto (-60), 3) := by decide +kernel
theorem dX11_crossed_67 : decode cX11_crossed 67 = .ok (.iload_n 1, 1) := by decide +kernel
theorem dX11_crossed_68 : decode cX11_crossed 68 = .ok (.ireturn, 1) := by decide +kernel
theorem dX11_cutAt_0 : decode cX11_cutAt 0 = .ok (.iconst 0, 1) := by decide +kernel
theorem dX11_cutAt_1 : decode cX11_cutAt 1 = .ok (.istore_n 1, 1) := by decide +kernel
theorem dX11_cutAt_2 : decode cX11_cutAt 2 = .ok (.iconst 0, 1) := by decide +kernel
theorem dX11_cutAt_3 : decode cX11_cutAt 3 = .ok (.istore_n 2, 1) := by decide +kernel
theorem dX11_cutAt_4 : decode cX11_cutAt 4 = .ok (.aload_n 0, 1) := by decide +kernel
theorem dX11_cutAt_5 : decode cX11_cutAt 5 = .ok (.getfield 19, 3) := by decide +kernel
theorem dX11_cutAt_8 : decode cX11_cutAt 8 = .ok (.iconst 2, 1) := by decide +kernel
theorem dX11_cutAt_9 : decode cX11_cutAt 9 = .ok (.iaload, 1) := by decide +kernel
theorem dX11_cutAt_10 : decode cX11_cutAt 10 = .ok (.istore_n 3, 1) := by decide +kernel
theorem dX11_cutAt_11 : decode cX11_cutAt 11 = .ok (.iconst 1, 1) := by decide +kernel
theorem dX11_cutAt_12 : decode cX11_cutAt 12 = .ok (.istore 4, 2) := by decide +kernel
theorem dX11_cutAt_14 : decode cX11_cutAt 14 = .ok (.iload 4, 2) := by decide +kernel
theorem dX11_cutAt_16 : decode cX11_cutAt 16 = .ok (.iload_n 3, 1) := by decide +kernel
theorem dX11_cutAt_17 : decode cX11_cutAt 17 = .ok (.if_icmp .ge 64, 3) := by decide +kernel
theorem dX11_cutAt_20 : decode cX11_cutAt 20 = .ok (.aload_n 0, 1) := by decide +kernel
theorem dX11_cutAt_21 : decode cX11_cutAt 21 = .ok (.getfield 19, 3) := by decide +kernel
theorem dX11_cutAt_24 : decode cX11_cutAt 24 = .ok (.iconst 4, 1) := by decide +kernel
theorem dX11_cutAt_25 : decode cX11_cutAt 25 = .ok (.iload 4, 2) := by decide +kernel
theorem dX11_cutAt_27 : decode cX11_cutAt 27 = .ok (.iadd, 1) := by decide +kernel
theorem dX11_cutAt_28 : decode cX11_cutAt 28 = .ok (.iconst 1, 1) := by decide +kernel
theorem dX11_cutAt_29 : decode cX11_cutAt 29 = .ok (.isub, 1) := by decide +kernel
theorem dX11_cutAt_30 : decode cX11_cutAt 30 = .ok (.iaload, 1) := by decide +kernel
theorem dX11_cutAt_31 : decode cX11_cutAt 31 = .ok (.aload_n 0, 1) := by decide +kernel
theorem dX11_cutAt_32 : decode cX11_cutAt 32 = .ok (.getfield 19, 3) := by decide +kernel
theorem dX11_cutAt_35 : decode cX11_cutAt 35 = .ok (.iconst 4, 1) := by decide +kernel
theorem dX11_cutAt_36 : decode cX11_cutAt 36 = .ok (.iload 4, 2) := by decide +kernel
theorem dX11_cutAt_38 : decode cX11_cutAt 38 = .ok (.iadd, 1) := by decide +kernel
theorem dX11_cutAt_39 : decode cX11_cutAt 39 = .ok (.iaload, 1) := by decide +kernel
theorem dX11_cutAt_40 : decode cX11_cutAt 40 = .ok (.if_icmp .le 7, 3) := by decide +kernel
theorem dX11_cutAt_43 : decode cX11_cutAt 43 = .ok (.iconst 1, 1) := by decide +kernel
theorem dX11_cutAt_44 : decode cX11_cutAt 44 = .ok (.goto 4, 3) := by decide +kernel
theorem dX11_cutAt_47 : decode cX11_cutAt 47 = .ok (.iconst 0, 1) := by decide +kernel
theorem dX11_cutAt_48 : decode cX11_cutAt 48 = .ok (.istore 5, 2) := by decide +kernel
theorem dX11_cutAt_50 : decode cX11_cutAt 50 = .ok (.iload_n 1, 1) := by decide +kernel
theorem dX11_cutAt_51 : decode cX11_cutAt 51 = .ok (.iload 5, 2) := by decide +kernel
theorem dX11_cutAt_53 : decode cX11_cutAt 53 = .ok (.ifCond .eq 7, 3) := by decide +kernel
theorem dX11_cutAt_56 : decode cX11_cutAt 56 = .ok (.iconst 1, 1) := by decide +kernel
theorem dX11_cutAt_57 : decode cX11_cutAt 57 = .ok (.goto 4, 3) := by decide +kernel
theorem dX11_cutAt_60 : decode cX11_cutAt 60 = .ok (.iconst 0, 1) := by decide +kernel
theorem dX11_cutAt_61 : decode cX11_cutAt 61 = .ok (.iadd, 1) := by decide +kernel
theorem dX11_cutAt_62 : decode cX11_cutAt 62 = .ok (.istore_n 1, 1) := by decide +kernel
theorem dX11_cutAt_63 : decode cX11_cutAt 63 = .ok (.iload 5, 2) := by decide +kernel
theorem dX11_cutAt_65 : decode cX11_cutAt 65 = .ok (.ifCond .eq 8, 3) := by decide +kernel
theorem dX11_cutAt_68 : decode cX11_cutAt 68 = .ok (.iload 4, 2) := by decide +kernel
theorem dX11_cutAt_70 : decode cX11_cutAt 70 = .ok (.goto 4, 3) := by decide +kernel
theorem dX11_cutAt_73 : decode cX11_cutAt 73 = .ok (.iload_n 2, 1) := by decide +kernel
theorem dX11_cutAt_74 : decode cX11_cutAt 74 = .ok (.istore_n 2, 1) := by decide +kernel
theorem dX11_cutAt_75 : decode cX11_cutAt 75 = .ok (.iinc 4 1, 3) := by decide +kernel
theorem dX11_cutAt_78 : decode cX11_cutAt 78 = .ok (.goto (-64), 3) := by decide +kernel
theorem dX11_cutAt_81 : decode cX11_cutAt 81 = .ok (.iload_n 1, 1) := by decide +kernel
theorem dX11_cutAt_82 : decode cX11_cutAt 82 = .ok (.ifCond .ne 7, 3) := by decide +kernel
theorem dX11_cutAt_85 : decode cX11_cutAt 85 = .ok (.iconst 0, 1) := by decide +kernel
theorem dX11_cutAt_86 : decode cX11_cutAt 86 = .ok (.goto 32, 3) := by decide +kernel
theorem dX11_cutAt_89 : decode cX11_cutAt 89 = .ok (.iload_n 1, 1) := by decide +kernel
theorem dX11_cutAt_90 : decode cX11_cutAt 90 = .ok (.iconst 1, 1) := by decide +kernel
theorem dX11_cutAt_91 : decode cX11_cutAt 91 = .ok (.if_icmp .ne 26, 3) := by decide +kernel
theorem dX11_cutAt_94 : decode cX11_cutAt 94 = .ok (.aload_n 0, 1) := by decide +kernel
theorem dX11_cutAt_95 : decode cX11_cutAt 95 = .ok (.getfield 19, 3) := by decide +kernel
theorem dX11_cutAt_98 : decode cX11_cutAt 98 = .ok (.iconst 4, 1) := by decide +kernel
theorem dX11_cutAt_99 : decode cX11_cutAt 99 = .ok (.iload_n 3, 1) := by decide +kernel
theorem dX11_cutAt_100 : decode cX11_cutAt 100 = .ok (.iadd, 1) := by decide +kernel
theorem dX11_cutAt_101 : decode cX11_cutAt 101 = .ok (.iconst 1, 1) := by decide +kernel
theorem dX11_cutAt_102 : decode cX11_cutAt 102 = .ok (.isub, 1) := by decide +kernel
theorem dX11_cutAt_103 : decode cX11_cutAt 103 = .ok (.iaload, 1) := by decide +kernel
theorem dX11_cutAt_104 : decode cX11_cutAt 104 = .ok (.aload_n 0, 1) := by decide +kernel
theorem dX11_cutAt_105 : decode cX11_cutAt 105 = .ok (.getfield 19, 3) := by decide +kernel
theorem dX11_cutAt_108 : decode cX11_cutAt 108 = .ok (.iconst 4, 1) := by decide +kernel
theorem dX11_cutAt_109 : decode cX11_cutAt 109 = .ok (.iaload, 1) := by decide +kernel
theorem dX11_cutAt_110 : decode cX11_cutAt 110 = .ok (.if_icmp .ge 7, 3) := by decide +kernel
theorem dX11_cutAt_113 : decode cX11_cutAt 113 = .ok (.iload_n 2, 1) := by decide +kernel
theorem dX11_cutAt_114 : decode cX11_cutAt 114 = .ok (.goto 4, 3) := by decide +kernel
theorem dX11_cutAt_117 : decode cX11_cutAt 117 = .ok (.iconst (-1), 1) := by decide +kernel
theorem dX11_cutAt_118 : decode cX11_cutAt 118 = .ok (.ireturn, 1) := by decide +kernel
theorem dX11_longOf_0 : decode cX11_longOf 0 = .ok (.iconst 0, 1) := by decide +kernel
theorem dX11_longOf_1 : decode cX11_longOf 1 = .ok (.istore_n 2, 1) := by decide +kernel
theorem dX11_longOf_2 : decode cX11_longOf 2 = .ok (.iload_n 2, 1) := by decide +kernel
theorem dX11_longOf_3 : decode cX11_longOf 3 = .ok (.iconst 4, 1) := by decide +kernel
theorem dX11_longOf_4 : decode cX11_longOf 4 = .ok (.if_icmp .ge 27, 3) := by decide +kernel
theorem dX11_longOf_7 : decode cX11_longOf 7 = .ok (.aload_n 0, 1) := by decide +kernel
theorem dX11_longOf_8 : decode cX11_longOf 8 = .ok (.getfield 13, 3) := by decide +kernel
theorem dX11_longOf_11 : decode cX11_longOf 11 = .ok (.bipush 19, 2) := by decide +kernel
theorem dX11_longOf_13 : decode cX11_longOf 13 = .ok (.iconst 4, 1) := by decide +kernel
theorem dX11_longOf_14 : decode cX11_longOf 14 = .ok (.iload_n 1, 1) := by decide +kernel
theorem dX11_longOf_15 : decode cX11_longOf 15 = .ok (.imul, 1) := by decide +kernel
theorem dX11_longOf_16 : decode cX11_longOf 16 = .ok (.iadd, 1) := by decide +kernel
theorem dX11_longOf_17 : decode cX11_longOf 17 = .ok (.iload_n 2, 1) := by decide +kernel
theorem dX11_longOf_18 : decode cX11_longOf 18 = .ok (.iadd, 1) := by decide +kernel
theorem dX11_longOf_19 : decode cX11_longOf 19 = .ok (.iaload, 1) := by decide +kernel
theorem dX11_longOf_20 : decode cX11_longOf 20 = .ok (.bipush 9, 2) := by decide +kernel
theorem dX11_longOf_22 : decode cX11_longOf 22 = .ok (.if_icmp .ge 9, 3) := by decide +kernel
theorem dX11_longOf_25 : decode cX11_longOf 25 = .ok (.iinc 2 1, 3) := by decide +kernel
theorem dX11_longOf_28 : decode cX11_longOf 28 = .ok (.goto (-26), 3) := by decide +kernel
theorem dX11_longOf_31 : decode cX11_longOf 31 = .ok (.iload_n 2, 1) := by decide +kernel
theorem dX11_longOf_32 : decode cX11_longOf 32 = .ok (.ireturn, 1) := by decide +kernel
theorem dX11_fits_0 : decode cX11_fits 0 = .ok (.aload_n 0, 1) := by decide +kernel
theorem dX11_fits_1 : decode cX11_fits 1 = .ok (.iload_n 1, 1) := by decide +kernel
theorem dX11_fits_2 : decode cX11_fits 2 = .ok (.invokevirtual 125, 3) := by decide +kernel
theorem dX11_fits_5 : decode cX11_fits 5 = .ok (.istore_n 3, 1) := by decide +kernel
theorem dX11_fits_6 : decode cX11_fits 6 = .ok (.iload_n 2, 1) := by decide +kernel
theorem dX11_fits_7 : decode cX11_fits 7 = .ok (.iload_n 3, 1) := by decide +kernel
theorem dX11_fits_8 : decode cX11_fits 8 = .ok (.iadd, 1) := by decide +kernel
theorem dX11_fits_9 : decode cX11_fits 9 = .ok (.aload_n 0, 1) := by decide +kernel
theorem dX11_fits_10 : decode cX11_fits 10 = .ok (.getfield 19, 3) := by decide +kernel
theorem dX11_fits_13 : decode cX11_fits 13 = .ok (.iconst 2, 1) := by decide +kernel
theorem dX11_fits_14 : decode cX11_fits 14 = .ok (.iaload, 1) := by decide +kernel
theorem dX11_fits_15 : decode cX11_fits 15 = .ok (.if_icmp .gt 7, 3) := by decide +kernel
theorem dX11_fits_18 : decode cX11_fits 18 = .ok (.iconst 1, 1) := by decide +kernel
theorem dX11_fits_19 : decode cX11_fits 19 = .ok (.goto 4, 3) := by decide +kernel
theorem dX11_fits_22 : decode cX11_fits 22 = .ok (.iconst 0, 1) := by decide +kernel
theorem dX11_fits_23 : decode cX11_fits 23 = .ok (.istore 4, 2) := by decide +kernel
theorem dX11_fits_25 : decode cX11_fits 25 = .ok (.iconst 0, 1) := by decide +kernel
theorem dX11_fits_26 : decode cX11_fits 26 = .ok (.istore 5, 2) := by decide +kernel
theorem dX11_fits_28 : decode cX11_fits 28 = .ok (.iload 5, 2) := by decide +kernel
theorem dX11_fits_30 : decode cX11_fits 30 = .ok (.iload_n 3, 1) := by decide +kernel
theorem dX11_fits_31 : decode cX11_fits 31 = .ok (.if_icmp .ge 56, 3) := by decide +kernel
theorem dX11_fits_34 : decode cX11_fits 34 = .ok (.iload 4, 2) := by decide +kernel
theorem dX11_fits_36 : decode cX11_fits 36 = .ok (.ifCond .eq 51, 3) := by decide +kernel
theorem dX11_fits_39 : decode cX11_fits 39 = .ok (.aload_n 0, 1) := by decide +kernel
theorem dX11_fits_40 : decode cX11_fits 40 = .ok (.getfield 13, 3) := by decide +kernel
theorem dX11_fits_43 : decode cX11_fits 43 = .ok (.bipush 19, 2) := by decide +kernel
theorem dX11_fits_45 : decode cX11_fits 45 = .ok (.iconst 4, 1) := by decide +kernel
theorem dX11_fits_46 : decode cX11_fits 46 = .ok (.iload_n 1, 1) := by decide +kernel
theorem dX11_fits_47 : decode cX11_fits 47 = .ok (.imul, 1) := by decide +kernel
theorem dX11_fits_48 : decode cX11_fits 48 = .ok (.iadd, 1) := by decide +kernel
theorem dX11_fits_49 : decode cX11_fits 49 = .ok (.iload 5, 2) := by decide +kernel
theorem dX11_fits_51 : decode cX11_fits 51 = .ok (.iadd, 1) := by decide +kernel
theorem dX11_fits_52 : decode cX11_fits 52 = .ok (.iaload, 1) := by decide +kernel
theorem dX11_fits_53 : decode cX11_fits 53 = .ok (.aload_n 0, 1) := by decide +kernel
theorem dX11_fits_54 : decode cX11_fits 54 = .ok (.getfield 13, 3) := by decide +kernel
theorem dX11_fits_57 : decode cX11_fits 57 = .ok (.iconst 5, 1) := by decide +kernel
theorem dX11_fits_58 : decode cX11_fits 58 = .ok (.aload_n 0, 1) := by decide +kernel
theorem dX11_fits_59 : decode cX11_fits 59 = .ok (.getfield 19, 3) := by decide +kernel
theorem dX11_fits_62 : decode cX11_fits 62 = .ok (.iconst 4, 1) := by decide +kernel
theorem dX11_fits_63 : decode cX11_fits 63 = .ok (.iload_n 2, 1) := by decide +kernel
theorem dX11_fits_64 : decode cX11_fits 64 = .ok (.iadd, 1) := by decide +kernel
theorem dX11_fits_65 : decode cX11_fits 65 = .ok (.iload 5, 2) := by decide +kernel
theorem dX11_fits_67 : decode cX11_fits 67 = .ok (.iadd, 1) := by decide +kernel
theorem dX11_fits_68 : decode cX11_fits 68 = .ok (.iaload, 1) := by decide +kernel
theorem dX11_fits_69 : decode cX11_fits 69 = .ok (.iadd, 1) := by decide +kernel
theorem dX11_fits_70 : decode cX11_fits 70 = .ok (.iaload, 1) := by decide +kernel
theorem dX11_fits_71 : decode cX11_fits 71 = .ok (.if_icmp .ne 7, 3) := by decide +kernel
theorem dX11_fits_74 : decode cX11_fits 74 = .ok (.iconst 1, 1) := by decide +kernel
theorem dX11_fits_75 : decode cX11_fits 75 = .ok (.goto 4, 3) := by decide +kernel
theorem dX11_fits_78 : decode cX11_fits 78 = .ok (.iconst 0, 1) := by decide +kernel
theorem dX11_fits_79 : decode cX11_fits 79 = .ok (.istore 4, 2) := by decide +kernel
theorem dX11_fits_81 : decode cX11_fits 81 = .ok (.iinc 5 1, 3) := by decide +kernel
theorem dX11_fits_84 : decode cX11_fits 84 = .ok (.goto (-56), 3) := by decide +kernel
theorem dX11_fits_87 : decode cX11_fits 87 = .ok (.iload 4, 2) := by decide +kernel
theorem dX11_fits_89 : decode cX11_fits 89 = .ok (.ireturn, 1) := by decide +kernel
theorem dX11_readings_0 : decode cX11_readings 0 = .ok (.aload_n 0, 1) := by decide +kernel
theorem dX11_readings_1 : decode cX11_readings 1 = .ok (.getfield 42, 3) := by decide +kernel
theorem dX11_readings_4 : decode cX11_readings 4 = .ok (.aload_n 0, 1) := by decide +kernel
theorem dX11_readings_5 : decode cX11_readings 5 = .ok (.getfield 19, 3) := by decide +kernel
theorem dX11_readings_8 : decode cX11_readings 8 = .ok (.iconst 2, 1) := by decide +kernel
theorem dX11_readings_9 : decode cX11_readings 9 = .ok (.iaload, 1) := by decide +kernel
theorem dX11_readings_10 : decode cX11_readings 10 = .ok (.iconst 1, 1) := by decide +kernel
theorem dX11_readings_11 : decode cX11_readings 11 = .ok (.iastore, 1) := by decide +kernel
theorem dX11_readings_12 : decode cX11_readings 12 = .ok (.aload_n 0, 1) := by decide +kernel
theorem dX11_readings_13 : decode cX11_readings 13 = .ok (.getfield 19, 3) := by decide +kernel
theorem dX11_readings_16 : decode cX11_readings 16 = .ok (.iconst 2, 1) := by decide +kernel
theorem dX11_readings_17 : decode cX11_readings 17 = .ok (.iaload, 1) := by decide +kernel
theorem dX11_readings_18 : decode cX11_readings 18 = .ok (.iconst 1, 1) := by decide +kernel
theorem dX11_readings_19 : decode cX11_readings 19 = .ok (.isub, 1) := by decide +kernel
theorem dX11_readings_20 : decode cX11_readings 20 = .ok (.istore_n 1, 1) := by decide +kernel
theorem dX11_readings_21 : decode cX11_readings 21 = .ok (.iload_n 1, 1) := by decide +kernel
theorem dX11_readings_22 : decode cX11_readings 22 = .ok (.ifCond .lt 68, 3) := by decide +kernel
theorem dX11_readings_25 : decode cX11_readings 25 = .ok (.aload_n 0, 1) := by decide +kernel
theorem dX11_readings_26 : decode cX11_readings 26 = .ok (.getfield 42, 3) := by decide +kernel
theorem dX11_readings_29 : decode cX11_readings 29 = .ok (.iload_n 1, 1) := by decide +kernel
theorem dX11_readings_30 : decode cX11_readings 30 = .ok (.iconst 0, 1) := by decide +kernel
theorem dX11_readings_31 : decode cX11_readings 31 = .ok (.iastore, 1) := by decide +kernel
theorem dX11_readings_32 : decode cX11_readings 32 = .ok (.iconst 0, 1) := by decide +kernel
theorem dX11_readings_33 : decode cX11_readings 33 = .ok (.istore_n 2, 1) := by decide +kernel
theorem dX11_readings_34 : decode cX11_readings 34 = .ok (.iload_n 2, 1) := by decide +kernel
theorem dX11_readings_35 : decode cX11_readings 35 = .ok (.aload_n 0, 1) := by decide +kernel
theorem dX11_readings_36 : decode cX11_readings 36 = .ok (.getfield 13, 3) := by decide +kernel
theorem dX11_readings_39 : decode cX11_readings 39 = .ok (.iconst 2, 1) := by decide +kernel
theorem dX11_readings_40 : decode cX11_readings 40 = .ok (.iaload, 1) := by decide +kernel
theorem dX11_readings_41 : decode cX11_readings 41 = .ok (.if_icmp .ge 43, 3) := by decide +kernel
theorem dX11_readings_44 : decode cX11_readings 44 = .ok (.aload_n 0, 1) := by decide +kernel
theorem dX11_readings_45 : decode cX11_readings 45 = .ok (.getfield 42, 3) := by decide +kernel
theorem dX11_readings_48 : decode cX11_readings 48 = .ok (.iload_n 1, 1) := by decide +kernel
theorem dX11_readings_49 : decode cX11_readings 49 = .ok (.dup2, 1) := by decide +kernel
theorem dX11_readings_50 : decode cX11_readings 50 = .ok (.iaload, 1) := by decide +kernel
theorem dX11_readings_51 : decode cX11_readings 51 = .ok (.aload_n 0, 1) := by decide +kernel
theorem dX11_readings_52 : decode cX11_readings 52 = .ok (.iload_n 2, 1) := by decide +kernel
theorem dX11_readings_53 : decode cX11_readings 53 = .ok (.iload_n 1, 1) := by decide +kernel
theorem dX11_readings_54 : decode cX11_readings 54 = .ok (.invokevirtual 129, 3) := by decide +kernel
theorem dX11_readings_57 : decode cX11_readings 57 = .ok (.ifCond .eq 18, 3) := by decide +kernel
theorem dX11_readings_60 : decode cX11_readings 60 = .ok (.aload_n 0, 1) := by decide +kernel
theorem dX11_readings_61 : decode cX11_readings 61 = .ok (.getfield 42, 3) := by decide +kernel
theorem dX11_readings_64 : decode cX11_readings 64 = .ok (.iload_n 1, 1) := by decide +kernel
theorem dX11_readings_65 : decode cX11_readings 65 = .ok (.aload_n 0, 1) := by decide +kernel
theorem dX11_readings_66 : decode cX11_readings 66 = .ok (.iload_n 2, 1) := by decide +kernel
theorem dX11_readings_67 : decode cX11_readings 67 = .ok (.invokevirtual 125, 3) := by decide +kernel
theorem dX11_readings_70 : decode cX11_readings 70 = .ok (.iadd, 1) := by decide +kernel
theorem dX11_readings_71 : decode cX11_readings 71 = .ok (.iaload, 1) := by decide +kernel
theorem dX11_readings_72 : decode cX11_readings 72 = .ok (.goto 4, 3) := by decide +kernel
theorem dX11_readings_75 : decode cX11_readings 75 = .ok (.iconst 0, 1) := by decide +kernel
theorem dX11_readings_76 : decode cX11_readings 76 = .ok (.iadd, 1) := by decide +kernel
theorem dX11_readings_77 : decode cX11_readings 77 = .ok (.iastore, 1) := by decide +kernel
theorem dX11_readings_78 : decode cX11_readings 78 = .ok (.iinc 2 1, 3) := by decide +kernel
theorem dX11_readings_81 : decode cX11_readings 81 = .ok (.goto (-47), 3) := by decide +kernel
theorem dX11_readings_84 : decode cX11_readings 84 = .ok (.iinc 1 (-1), 3) := by decide +kernel
theorem dX11_readings_87 : decode cX11_readings 87 = .ok (.goto (-66), 3) := by decide +kernel
theorem dX11_readings_90 : decode cX11_readings 90 = .ok (.aload_n 0, 1) := by decide +kernel
theorem dX11_readings_91 : decode cX11_readings 91 = .ok (.getfield 42, 3) := by decide +kernel
theorem dX11_readings_94 : decode cX11_readings 94 = .ok (.iconst 0, 1) := by decide +kernel
theorem dX11_readings_95 : decode cX11_readings 95 = .ok (.iaload, 1) := by decide +kernel
theorem dX11_readings_96 : decode cX11_readings 96 = .ok (.ireturn, 1) := by decide +kernel
theorem dX11_firstOf_0 : decode cX11_firstOf 0 = .ok (.aload_n 0, 1) := by decide +kernel
theorem dX11_firstOf_1 : decode cX11_firstOf 1 = .ok (.invokevirtual 132, 3) := by decide +kernel
theorem dX11_firstOf_4 : decode cX11_firstOf 4 = .ok (.ifCond .ne 5, 3) := by decide +kernel
theorem dX11_firstOf_7 : decode cX11_firstOf 7 = .ok (.iconst (-1), 1) := by decide +kernel
theorem dX11_firstOf_8 : decode cX11_firstOf 8 = .ok (.ireturn, 1) := by decide +kernel
theorem dX11_firstOf_9 : decode cX11_firstOf 9 = .ok (.iconst 0, 1) := by decide +kernel
theorem dX11_firstOf_10 : decode cX11_firstOf 10 = .ok (.istore_n 1, 1) := by decide +kernel
theorem dX11_firstOf_11 : decode cX11_firstOf 11 = .ok (.iconst 0, 1) := by decide +kernel
theorem dX11_firstOf_12 : decode cX11_firstOf 12 = .ok (.istore_n 2, 1) := by decide +kernel
theorem dX11_firstOf_13 : decode cX11_firstOf 13 = .ok (.iload_n 2, 1) := by decide +kernel
theorem dX11_firstOf_14 : decode cX11_firstOf 14 = .ok (.aload_n 0, 1) := by decide +kernel
theorem dX11_firstOf_15 : decode cX11_firstOf 15 = .ok (.getfield 19, 3) := by decide +kernel
theorem dX11_firstOf_18 : decode cX11_firstOf 18 = .ok (.iconst 2, 1) := by decide +kernel
theorem dX11_firstOf_19 : decode cX11_firstOf 19 = .ok (.iaload, 1) := by decide +kernel
theorem dX11_firstOf_20 : decode cX11_firstOf 20 = .ok (.if_icmp .ge 55, 3) := by decide +kernel
theorem dX11_firstOf_23 : decode cX11_firstOf 23 = .ok (.iconst 0, 1) := by decide +kernel
theorem dX11_firstOf_24 : decode cX11_firstOf 24 = .ok (.istore_n 3, 1) := by decide +kernel
theorem dX11_firstOf_25 : decode cX11_firstOf 25 = .ok (.aload_n 0, 1) := by decide +kernel
theorem dX11_firstOf_26 : decode cX11_firstOf 26 = .ok (.iload_n 3, 1) := by decide +kernel
theorem dX11_firstOf_27 : decode cX11_firstOf 27 = .ok (.iload_n 2, 1) := by decide +kernel
theorem dX11_firstOf_28 : decode cX11_firstOf 28 = .ok (.invokevirtual 129, 3) := by decide +kernel
theorem dX11_firstOf_31 : decode cX11_firstOf 31 = .ok (.ifCond .eq 18, 3) := by decide +kernel
theorem dX11_firstOf_34 : decode cX11_firstOf 34 = .ok (.aload_n 0, 1) := by decide +kernel
theorem dX11_firstOf_35 : decode cX11_firstOf 35 = .ok (.getfield 42, 3) := by decide +kernel
theorem dX11_firstOf_38 : decode cX11_firstOf 38 = .ok (.iload_n 2, 1) := by decide +kernel
theorem dX11_firstOf_39 : decode cX11_firstOf 39 = .ok (.aload_n 0, 1) := by decide +kernel
theorem dX11_firstOf_40 : decode cX11_firstOf 40 = .ok (.iload_n 3, 1) := by decide +kernel
theorem dX11_firstOf_41 : decode cX11_firstOf 41 = .ok (.invokevirtual 125, 3) := by decide +kernel
theorem dX11_firstOf_44 : decode cX11_firstOf 44 = .ok (.iadd, 1) := by decide +kernel
theorem dX11_firstOf_45 : decode cX11_firstOf 45 = .ok (.iaload, 1) := by decide +kernel
theorem dX11_firstOf_46 : decode cX11_firstOf 46 = .ok (.ifCond .ne 9, 3) := by decide +kernel
theorem dX11_firstOf_49 : decode cX11_firstOf 49 = .ok (.iinc 3 1, 3) := by decide +kernel
theorem dX11_firstOf_52 : decode cX11_firstOf 52 = .ok (.goto (-27), 3) := by decide +kernel
theorem dX11_firstOf_55 : decode cX11_firstOf 55 = .ok (.bipush 10, 2) := by decide +kernel
theorem dX11_firstOf_57 : decode cX11_firstOf 57 = .ok (.iload_n 1, 1) := by decide +kernel
theorem dX11_firstOf_58 : decode cX11_firstOf 58 = .ok (.imul, 1) := by decide +kernel
theorem dX11_firstOf_59 : decode cX11_firstOf 59 = .ok (.iload_n 3, 1) := by decide +kernel
theorem dX11_firstOf_60 : decode cX11_firstOf 60 = .ok (.iadd, 1) := by decide +kernel
theorem dX11_firstOf_61 : decode cX11_firstOf 61 = .ok (.iconst 1, 1) := by decide +kernel
theorem dX11_firstOf_62 : decode cX11_firstOf 62 = .ok (.iadd, 1) := by decide +kernel
theorem dX11_firstOf_63 : decode cX11_firstOf 63 = .ok (.istore_n 1, 1) := by decide +kernel
theorem dX11_firstOf_64 : decode cX11_firstOf 64 = .ok (.iload_n 2, 1) := by decide +kernel
theorem dX11_firstOf_65 : decode cX11_firstOf 65 = .ok (.aload_n 0, 1) := by decide +kernel
theorem dX11_firstOf_66 : decode cX11_firstOf 66 = .ok (.iload_n 3, 1) := by decide +kernel
theorem dX11_firstOf_67 : decode cX11_firstOf 67 = .ok (.invokevirtual 125, 3) := by decide +kernel
theorem dX11_firstOf_70 : decode cX11_firstOf 70 = .ok (.iadd, 1) := by decide +kernel
theorem dX11_firstOf_71 : decode cX11_firstOf 71 = .ok (.istore_n 2, 1) := by decide +kernel
theorem dX11_firstOf_72 : decode cX11_firstOf 72 = .ok (.goto (-59), 3) := by decide +kernel
theorem dX11_firstOf_75 : decode cX11_firstOf 75 = .ok (.iload_n 1, 1) := by decide +kernel
theorem dX11_firstOf_76 : decode cX11_firstOf 76 = .ok (.ireturn, 1) := by decide +kernel
theorem dX11_begun_0 : decode cX11_begun 0 = .ok (.iconst 0, 1) := by decide +kernel
theorem dX11_begun_1 : decode cX11_begun 1 = .ok (.istore_n 1, 1) := by decide +kernel
theorem dX11_begun_2 : decode cX11_begun 2 = .ok (.iconst 0, 1) := by decide +kernel
theorem dX11_begun_3 : decode cX11_begun 3 = .ok (.istore_n 2, 1) := by decide +kernel
theorem dX11_begun_4 : decode cX11_begun 4 = .ok (.iload_n 2, 1) := by decide +kernel
theorem dX11_begun_5 : decode cX11_begun 5 = .ok (.aload_n 0, 1) := by decide +kernel
theorem dX11_begun_6 : decode cX11_begun 6 = .ok (.getfield 19, 3) := by decide +kernel
theorem dX11_begun_9 : decode cX11_begun 9 = .ok (.iconst 2, 1) := by decide +kernel
theorem dX11_begun_10 : decode cX11_begun 10 = .ok (.iaload, 1) := by decide +kernel
theorem dX11_begun_11 : decode cX11_begun 11 = .ok (.if_icmp .ge 46, 3) := by decide +kernel
theorem dX11_begun_14 : decode cX11_begun 14 = .ok (.iconst 0, 1) := by decide +kernel
theorem dX11_begun_15 : decode cX11_begun 15 = .ok (.istore_n 3, 1) := by decide +kernel
theorem dX11_begun_16 : decode cX11_begun 16 = .ok (.iload_n 3, 1) := by decide +kernel
theorem dX11_begun_17 : decode cX11_begun 17 = .ok (.aload_n 0, 1) := by decide +kernel
theorem dX11_begun_18 : decode cX11_begun 18 = .ok (.getfield 13, 3) := by decide +kernel
theorem dX11_begun_21 : decode cX11_begun 21 = .ok (.iconst 2, 1) := by decide +kernel
theorem dX11_begun_22 : decode cX11_begun 22 = .ok (.iaload, 1) := by decide +kernel
theorem dX11_begun_23 : decode cX11_begun 23 = .ok (.if_icmp .ge 28, 3) := by decide +kernel
theorem dX11_begun_26 : decode cX11_begun 26 = .ok (.iload_n 1, 1) := by decide +kernel
theorem dX11_begun_27 : decode cX11_begun 27 = .ok (.aload_n 0, 1) := by decide +kernel
theorem dX11_begun_28 : decode cX11_begun 28 = .ok (.iload_n 3, 1) := by decide +kernel
theorem dX11_begun_29 : decode cX11_begun 29 = .ok (.iload_n 2, 1) := by decide +kernel
theorem dX11_begun_30 : decode cX11_begun 30 = .ok (.invokevirtual 129, 3) := by decide +kernel
theorem dX11_begun_33 : decode cX11_begun 33 = .ok (.ifCond .eq 9, 3) := by decide +kernel
theorem dX11_begun_36 : decode cX11_begun 36 = .ok (.iconst 1, 1) := by decide +kernel
theorem dX11_begun_37 : decode cX11_begun 37 = .ok (.iload_n 2, 1) := by decide +kernel
theorem dX11_begun_38 : decode cX11_begun 38 = .ok (.ishl, 1) := by decide +kernel
theorem dX11_begun_39 : decode cX11_begun 39 = .ok (.goto 4, 3) := by decide +kernel
theorem dX11_begun_42 : decode cX11_begun 42 = .ok (.iconst 0, 1) := by decide +kernel
theorem dX11_begun_43 : decode cX11_begun 43 = .ok (.ior, 1) := by decide +kernel
theorem dX11_begun_44 : decode cX11_begun 44 = .ok (.istore_n 1, 1) := by decide +kernel
theorem dX11_begun_45 : decode cX11_begun 45 = .ok (.iinc 3 1, 3) := by decide +kernel
theorem dX11_begun_48 : decode cX11_begun 48 = .ok (.goto (-32), 3) := by decide +kernel
theorem dX11_begun_51 : decode cX11_begun 51 = .ok (.iinc 2 1, 3) := by decide +kernel
theorem dX11_begun_54 : decode cX11_begun 54 = .ok (.goto (-50), 3) := by decide +kernel
theorem dX11_begun_57 : decode cX11_begun 57 = .ok (.iload_n 1, 1) := by decide +kernel
theorem dX11_begun_58 : decode cX11_begun 58 = .ok (.ireturn, 1) := by decide +kernel
theorem dX11_told_0 : decode cX11_told 0 = .ok (.iload_n 1, 1) := by decide +kernel
theorem dX11_told_1 : decode cX11_told 1 = .ok (.tableswitch 208 0 19 #[95, 95, 95, 95, 102, 107, 114, 121, 128, 133, 138, 145, 168, 173, 178, 183, 188, 193, 198, 203], 95) := by decide +kernel
theorem dX11_told_96 : decode cX11_told 96 = .ok (.aload_n 0, 1) := by decide +kernel
theorem dX11_told_97 : decode cX11_told 97 = .ok (.getfield 13, 3) := by decide +kernel
theorem dX11_told_100 : decode cX11_told 100 = .ok (.iload_n 1, 1) := by decide +kernel
theorem dX11_told_101 : decode cX11_told 101 = .ok (.iaload, 1) := by decide +kernel
theorem dX11_told_102 : decode cX11_told 102 = .ok (.ireturn, 1) := by decide +kernel
theorem dX11_told_103 : decode cX11_told 103 = .ok (.aload_n 0, 1) := by decide +kernel
theorem dX11_told_104 : decode cX11_told 104 = .ok (.getfield 72, 3) := by decide +kernel
theorem dX11_told_107 : decode cX11_told 107 = .ok (.ireturn, 1) := by decide +kernel
theorem dX11_told_108 : decode cX11_told 108 = .ok (.aload_n 0, 1) := by decide +kernel
theorem dX11_told_109 : decode cX11_told 109 = .ok (.getfield 19, 3) := by decide +kernel
theorem dX11_told_112 : decode cX11_told 112 = .ok (.iconst 0, 1) := by decide +kernel
theorem dX11_told_113 : decode cX11_told 113 = .ok (.iaload, 1) := by decide +kernel
theorem dX11_told_114 : decode cX11_told 114 = .ok (.ireturn, 1) := by decide +kernel
theorem dX11_told_115 : decode cX11_told 115 = .ok (.aload_n 0, 1) := by decide +kernel
theorem dX11_told_116 : decode cX11_told 116 = .ok (.getfield 19, 3) := by decide +kernel
theorem dX11_told_119 : decode cX11_told 119 = .ok (.iconst 1, 1) := by decide +kernel
theorem dX11_told_120 : decode cX11_told 120 = .ok (.iaload, 1) := by decide +kernel
theorem dX11_told_121 : decode cX11_told 121 = .ok (.ireturn, 1) := by decide +kernel
theorem dX11_told_122 : decode cX11_told 122 = .ok (.aload_n 0, 1) := by decide +kernel
theorem dX11_told_123 : decode cX11_told 123 = .ok (.getfield 19, 3) := by decide +kernel
theorem dX11_told_126 : decode cX11_told 126 = .ok (.iconst 2, 1) := by decide +kernel
theorem dX11_told_127 : decode cX11_told 127 = .ok (.iaload, 1) := by decide +kernel
theorem dX11_told_128 : decode cX11_told 128 = .ok (.ireturn, 1) := by decide +kernel
theorem dX11_told_129 : decode cX11_told 129 = .ok (.aload_n 0, 1) := by decide +kernel
theorem dX11_told_130 : decode cX11_told 130 = .ok (.invokevirtual 135, 3) := by decide +kernel
theorem dX11_told_133 : decode cX11_told 133 = .ok (.ireturn, 1) := by decide +kernel
theorem dX11_told_134 : decode cX11_told 134 = .ok (.aload_n 0, 1) := by decide +kernel
theorem dX11_told_135 : decode cX11_told 135 = .ok (.invokevirtual 138, 3) := by decide +kernel
theorem dX11_told_138 : decode cX11_told 138 = .ok (.ireturn, 1) := by decide +kernel
theorem dX11_told_139 : decode cX11_told 139 = .ok (.aload_n 0, 1) := by decide +kernel
theorem dX11_told_140 : decode cX11_told 140 = .ok (.getfield 19, 3) := by decide +kernel
theorem dX11_told_143 : decode cX11_told 143 = .ok (.iconst 3, 1) := by decide +kernel
theorem dX11_told_144 : decode cX11_told 144 = .ok (.iaload, 1) := by decide +kernel
theorem dX11_told_145 : decode cX11_told 145 = .ok (.ireturn, 1) := by decide +kernel
theorem dX11_told_146 : decode cX11_told 146 = .ok (.aload_n 0, 1) := by decide +kernel
theorem dX11_told_147 : decode cX11_told 147 = .ok (.getfield 13, 3) := by decide +kernel
theorem dX11_told_150 : decode cX11_told 150 = .ok (.iconst 0, 1) := by decide +kernel
theorem dX11_told_151 : decode cX11_told 151 = .ok (.iaload, 1) := by decide +kernel
theorem dX11_told_152 : decode cX11_told 152 = .ok (.iconst 1, 1) := by decide +kernel
theorem dX11_told_153 : decode cX11_told 153 = .ok (.if_icmp .ne 14, 3) := by decide +kernel
theorem dX11_told_156 : decode cX11_told 156 = .ok (.aload_n 0, 1) := by decide +kernel
theorem dX11_told_157 : decode cX11_told 157 = .ok (.invokevirtual 141, 3) := by decide +kernel
theorem dX11_told_160 : decode cX11_told 160 = .ok (.ifCond .ne 7, 3) := by decide +kernel
theorem dX11_told_163 : decode cX11_told 163 = .ok (.iconst 1, 1) := by decide +kernel
theorem dX11_told_164 : decode cX11_told 164 = .ok (.goto 4, 3) := by decide +kernel
theorem dX11_told_167 : decode cX11_told 167 = .ok (.iconst 0, 1) := by decide +kernel
theorem dX11_told_168 : decode cX11_told 168 = .ok (.ireturn, 1) := by decide +kernel
theorem dX11_told_169 : decode cX11_told 169 = .ok (.aload_n 0, 1) := by decide +kernel
theorem dX11_told_170 : decode cX11_told 170 = .ok (.invokevirtual 141, 3) := by decide +kernel
theorem dX11_told_173 : decode cX11_told 173 = .ok (.ireturn, 1) := by decide +kernel
theorem dX11_told_174 : decode cX11_told 174 = .ok (.aload_n 0, 1) := by decide +kernel
theorem dX11_told_175 : decode cX11_told 175 = .ok (.invokevirtual 144, 3) := by decide +kernel
theorem dX11_told_178 : decode cX11_told 178 = .ok (.ireturn, 1) := by decide +kernel
theorem dX11_told_179 : decode cX11_told 179 = .ok (.aload_n 0, 1) := by decide +kernel
theorem dX11_told_180 : decode cX11_told 180 = .ok (.invokevirtual 132, 3) := by decide +kernel
theorem dX11_told_183 : decode cX11_told 183 = .ok (.ireturn, 1) := by decide +kernel
theorem dX11_told_184 : decode cX11_told 184 = .ok (.aload_n 0, 1) := by decide +kernel
theorem dX11_told_185 : decode cX11_told 185 = .ok (.invokevirtual 147, 3) := by decide +kernel
theorem dX11_told_188 : decode cX11_told 188 = .ok (.ireturn, 1) := by decide +kernel
theorem dX11_told_189 : decode cX11_told 189 = .ok (.aload_n 0, 1) := by decide +kernel
theorem dX11_told_190 : decode cX11_told 190 = .ok (.invokevirtual 150, 3) := by decide +kernel
theorem dX11_told_193 : decode cX11_told 193 = .ok (.ireturn, 1) := by decide +kernel
theorem dX11_told_194 : decode cX11_told 194 = .ok (.aload_n 0, 1) := by decide +kernel
theorem dX11_told_195 : decode cX11_told 195 = .ok (.getfield 112, 3) := by decide +kernel
theorem dX11_told_198 : decode cX11_told 198 = .ok (.ireturn, 1) := by decide +kernel
theorem dX11_told_199 : decode cX11_told 199 = .ok (.aload_n 0, 1) := by decide +kernel
theorem dX11_told_200 : decode cX11_told 200 = .ok (.getfield 115, 3) := by decide +kernel
theorem dX11_told_203 : decode cX11_told 203 = .ok (.ireturn, 1) := by decide +kernel
theorem dX11_told_204 : decode cX11_told 204 = .ok (.aload_n 0, 1) := by decide +kernel
theorem dX11_told_205 : decode cX11_told 205 = .ok (.getfield 109, 3) := by decide +kernel
theorem dX11_told_208 : decode cX11_told 208 = .ok (.ireturn, 1) := by decide +kernel
theorem dX11_told_209 : decode cX11_told 209 = .ok (.ldc 71, 2) := by decide +kernel
theorem dX11_told_211 : decode cX11_told 211 = .ok (.ireturn, 1) := by decide +kernel
theorem dX11_flag_0 : decode cX11_flag 0 = .ok (.aload_n 0, 1) := by decide +kernel
theorem dX11_flag_1 : decode cX11_flag 1 = .ok (.iload_n 1, 1) := by decide +kernel
theorem dX11_flag_2 : decode cX11_flag 2 = .ok (.invokevirtual 153, 3) := by decide +kernel
theorem dX11_flag_5 : decode cX11_flag 5 = .ok (.ifCond .ne 6, 3) := by decide +kernel
theorem dX11_flag_8 : decode cX11_flag 8 = .ok (.ldc 156, 2) := by decide +kernel
theorem dX11_flag_10 : decode cX11_flag 10 = .ok (.ireturn, 1) := by decide +kernel
theorem dX11_flag_11 : decode cX11_flag 11 = .ok (.iload_n 2, 1) := by decide +kernel
theorem dX11_flag_12 : decode cX11_flag 12 = .ok (.tableswitch 81 0 4 #[36, 45, 55, 61, 71], 36) := by decide +kernel
theorem dX11_flag_48 : decode cX11_flag 48 = .ok (.aload_n 0, 1) := by decide +kernel
theorem dX11_flag_49 : decode cX11_flag 49 = .ok (.getfield 13, 3) := by decide +kernel
theorem dX11_flag_52 : decode cX11_flag 52 = .ok (.iconst 5, 1) := by decide +kernel
theorem dX11_flag_53 : decode cX11_flag 53 = .ok (.iload_n 1, 1) := by decide +kernel
theorem dX11_flag_54 : decode cX11_flag 54 = .ok (.iadd, 1) := by decide +kernel
theorem dX11_flag_55 : decode cX11_flag 55 = .ok (.iaload, 1) := by decide +kernel
theorem dX11_flag_56 : decode cX11_flag 56 = .ok (.ireturn, 1) := by decide +kernel
theorem dX11_flag_57 : decode cX11_flag 57 = .ok (.aload_n 0, 1) := by decide +kernel
theorem dX11_flag_58 : decode cX11_flag 58 = .ok (.getfield 13, 3) := by decide +kernel
theorem dX11_flag_61 : decode cX11_flag 61 = .ok (.bipush 12, 2) := by decide +kernel
theorem dX11_flag_63 : decode cX11_flag 63 = .ok (.iload_n 1, 1) := by decide +kernel
theorem dX11_flag_64 : decode cX11_flag 64 = .ok (.iadd, 1) := by decide +kernel
theorem dX11_flag_65 : decode cX11_flag 65 = .ok (.iaload, 1) := by decide +kernel
theorem dX11_flag_66 : decode cX11_flag 66 = .ok (.ireturn, 1) := by decide +kernel
theorem dX11_flag_67 : decode cX11_flag 67 = .ok (.aload_n 0, 1) := by decide +kernel
theorem dX11_flag_68 : decode cX11_flag 68 = .ok (.iload_n 1, 1) := by decide +kernel
theorem dX11_flag_69 : decode cX11_flag 69 = .ok (.invokevirtual 157, 3) := by decide +kernel
theorem dX11_flag_72 : decode cX11_flag 72 = .ok (.ireturn, 1) := by decide +kernel
theorem dX11_flag_73 : decode cX11_flag 73 = .ok (.aload_n 0, 1) := by decide +kernel
theorem dX11_flag_74 : decode cX11_flag 74 = .ok (.getfield 19, 3) := by decide +kernel
theorem dX11_flag_77 : decode cX11_flag 77 = .ok (.bipush 11, 2) := by decide +kernel
theorem dX11_flag_79 : decode cX11_flag 79 = .ok (.iload_n 1, 1) := by decide +kernel
theorem dX11_flag_80 : decode cX11_flag 80 = .ok (.iadd, 1) := by decide +kernel
theorem dX11_flag_81 : decode cX11_flag 81 = .ok (.iaload, 1) := by decide +kernel
theorem dX11_flag_82 : decode cX11_flag 82 = .ok (.ireturn, 1) := by decide +kernel
theorem dX11_flag_83 : decode cX11_flag 83 = .ok (.aload_n 0, 1) := by decide +kernel
theorem dX11_flag_84 : decode cX11_flag 84 = .ok (.getfield 19, 3) := by decide +kernel
theorem dX11_flag_87 : decode cX11_flag 87 = .ok (.bipush 18, 2) := by decide +kernel
theorem dX11_flag_89 : decode cX11_flag 89 = .ok (.iload_n 1, 1) := by decide +kernel
theorem dX11_flag_90 : decode cX11_flag 90 = .ok (.iadd, 1) := by decide +kernel
theorem dX11_flag_91 : decode cX11_flag 91 = .ok (.iaload, 1) := by decide +kernel
theorem dX11_flag_92 : decode cX11_flag 92 = .ok (.ireturn, 1) := by decide +kernel
theorem dX11_flag_93 : decode cX11_flag 93 = .ok (.ldc 71, 2) := by decide +kernel
theorem dX11_flag_95 : decode cX11_flag 95 = .ok (.ireturn, 1) := by decide +kernel
theorem dX11_at_0 : decode cX11_at 0 = .ok (.iload_n 1, 1) := by decide +kernel
theorem dX11_at_1 : decode cX11_at 1 = .ok (.iconst 0, 1) := by decide +kernel
theorem dX11_at_2 : decode cX11_at 2 = .ok (.bipush 6, 2) := by decide +kernel
theorem dX11_at_4 : decode cX11_at 4 = .ok (.invokestatic 67, 3) := by decide +kernel
theorem dX11_at_7 : decode cX11_at 7 = .ok (.ifCond .ne 8, 3) := by decide +kernel
theorem dX11_at_10 : decode cX11_at 10 = .ok (.ldc 71, 2) := by decide +kernel
theorem dX11_at_12 : decode cX11_at 12 = .ok (.goto 25, 3) := by decide +kernel
theorem dX11_at_15 : decode cX11_at 15 = .ok (.iload_n 1, 1) := by decide +kernel
theorem dX11_at_16 : decode cX11_at 16 = .ok (.aload_n 0, 1) := by decide +kernel
theorem dX11_at_17 : decode cX11_at 17 = .ok (.getfield 19, 3) := by decide +kernel
theorem dX11_at_20 : decode cX11_at 20 = .ok (.iconst 2, 1) := by decide +kernel
theorem dX11_at_21 : decode cX11_at 21 = .ok (.iaload, 1) := by decide +kernel
theorem dX11_at_22 : decode cX11_at 22 = .ok (.if_icmp .ge 14, 3) := by decide +kernel
theorem dX11_at_25 : decode cX11_at 25 = .ok (.aload_n 0, 1) := by decide +kernel
theorem dX11_at_26 : decode cX11_at 26 = .ok (.getfield 19, 3) := by decide +kernel
theorem dX11_at_29 : decode cX11_at 29 = .ok (.iconst 4, 1) := by decide +kernel
theorem dX11_at_30 : decode cX11_at 30 = .ok (.iload_n 1, 1) := by decide +kernel
theorem dX11_at_31 : decode cX11_at 31 = .ok (.iadd, 1) := by decide +kernel
theorem dX11_at_32 : decode cX11_at 32 = .ok (.iaload, 1) := by decide +kernel
theorem dX11_at_33 : decode cX11_at 33 = .ok (.goto 4, 3) := by decide +kernel
theorem dX11_at_36 : decode cX11_at 36 = .ok (.iconst (-1), 1) := by decide +kernel
theorem dX11_at_37 : decode cX11_at 37 = .ok (.ireturn, 1) := by decide +kernel
theorem dX11_reached_0 : decode cX11_reached 0 = .ok (.aload_n 0, 1) := by decide +kernel
theorem dX11_reached_1 : decode cX11_reached 1 = .ok (.getfield 13, 3) := by decide +kernel
theorem dX11_reached_4 : decode cX11_reached 4 = .ok (.bipush 43, 2) := by decide +kernel
theorem dX11_reached_6 : decode cX11_reached 6 = .ok (.iconst 2, 1) := by decide +kernel
theorem dX11_reached_7 : decode cX11_reached 7 = .ok (.iload_n 1, 1) := by decide +kernel
theorem dX11_reached_8 : decode cX11_reached 8 = .ok (.imul, 1) := by decide +kernel
theorem dX11_reached_9 : decode cX11_reached 9 = .ok (.iadd, 1) := by decide +kernel
theorem dX11_reached_10 : decode cX11_reached 10 = .ok (.iaload, 1) := by decide +kernel
theorem dX11_reached_11 : decode cX11_reached 11 = .ok (.istore_n 2, 1) := by decide +kernel
theorem dX11_reached_12 : decode cX11_reached 12 = .ok (.aload_n 0, 1) := by decide +kernel
theorem dX11_reached_13 : decode cX11_reached 13 = .ok (.getfield 13, 3) := by decide +kernel
theorem dX11_reached_16 : decode cX11_reached 16 = .ok (.bipush 43, 2) := by decide +kernel
theorem dX11_reached_18 : decode cX11_reached 18 = .ok (.iconst 2, 1) := by decide +kernel
theorem dX11_reached_19 : decode cX11_reached 19 = .ok (.iload_n 1, 1) := by decide +kernel
theorem dX11_reached_20 : decode cX11_reached 20 = .ok (.imul, 1) := by decide +kernel
theorem dX11_reached_21 : decode cX11_reached 21 = .ok (.iadd, 1) := by decide +kernel
theorem dX11_reached_22 : decode cX11_reached 22 = .ok (.iconst 1, 1) := by decide +kernel
theorem dX11_reached_23 : decode cX11_reached 23 = .ok (.iadd, 1) := by decide +kernel
theorem dX11_reached_24 : decode cX11_reached 24 = .ok (.iaload, 1) := by decide +kernel
theorem dX11_reached_25 : decode cX11_reached 25 = .ok (.istore_n 3, 1) := by decide +kernel
theorem dX11_reached_26 : decode cX11_reached 26 = .ok (.iconst 0, 1) := by decide +kernel
theorem dX11_reached_27 : decode cX11_reached 27 = .ok (.istore 4, 2) := by decide +kernel
theorem dX11_reached_29 : decode cX11_reached 29 = .ok (.iconst 0, 1) := by decide +kernel
theorem dX11_reached_30 : decode cX11_reached 30 = .ok (.istore 5, 2) := by decide +kernel
theorem dX11_reached_32 : decode cX11_reached 32 = .ok (.iload 5, 2) := by decide +kernel
theorem dX11_reached_34 : decode cX11_reached 34 = .ok (.aload_n 0, 1) := by decide +kernel
theorem dX11_reached_35 : decode cX11_reached 35 = .ok (.getfield 19, 3) := by decide +kernel
theorem dX11_reached_38 : decode cX11_reached 38 = .ok (.iconst 2, 1) := by decide +kernel
theorem dX11_reached_39 : decode cX11_reached 39 = .ok (.iaload, 1) := by decide +kernel
theorem dX11_reached_40 : decode cX11_reached 40 = .ok (.if_icmp .ge 43, 3) := by decide +kernel
theorem dX11_reached_43 : decode cX11_reached 43 = .ok (.iload 4, 2) := by decide +kernel
theorem dX11_reached_45 : decode cX11_reached 45 = .ok (.iload 5, 2) := by decide +kernel
theorem dX11_reached_47 : decode cX11_reached 47 = .ok (.iload_n 2, 1) := by decide +kernel
theorem dX11_reached_48 : decode cX11_reached 48 = .ok (.iload_n 3, 1) := by decide +kernel
theorem dX11_reached_49 : decode cX11_reached 49 = .ok (.isub, 1) := by decide +kernel
theorem dX11_reached_50 : decode cX11_reached 50 = .ok (.iload_n 2, 1) := by decide +kernel
theorem dX11_reached_51 : decode cX11_reached 51 = .ok (.iload_n 3, 1) := by decide +kernel
theorem dX11_reached_52 : decode cX11_reached 52 = .ok (.iadd, 1) := by decide +kernel
theorem dX11_reached_53 : decode cX11_reached 53 = .ok (.invokestatic 67, 3) := by decide +kernel
theorem dX11_reached_56 : decode cX11_reached 56 = .ok (.ifCond .eq 17, 3) := by decide +kernel
theorem dX11_reached_59 : decode cX11_reached 59 = .ok (.iconst 1, 1) := by decide +kernel
theorem dX11_reached_60 : decode cX11_reached 60 = .ok (.aload_n 0, 1) := by decide +kernel
theorem dX11_reached_61 : decode cX11_reached 61 = .ok (.getfield 19, 3) := by decide +kernel
theorem dX11_reached_64 : decode cX11_reached 64 = .ok (.iconst 4, 1) := by decide +kernel
theorem dX11_reached_65 : decode cX11_reached 65 = .ok (.iload 5, 2) := by decide +kernel
theorem dX11_reached_67 : decode cX11_reached 67 = .ok (.iadd, 1) := by decide +kernel
theorem dX11_reached_68 : decode cX11_reached 68 = .ok (.iaload, 1) := by decide +kernel
theorem dX11_reached_69 : decode cX11_reached 69 = .ok (.ishl, 1) := by decide +kernel
theorem dX11_reached_70 : decode cX11_reached 70 = .ok (.goto 4, 3) := by decide +kernel
theorem dX11_reached_73 : decode cX11_reached 73 = .ok (.iconst 0, 1) := by decide +kernel
theorem dX11_reached_74 : decode cX11_reached 74 = .ok (.ior, 1) := by decide +kernel
theorem dX11_reached_75 : decode cX11_reached 75 = .ok (.istore 4, 2) := by decide +kernel
theorem dX11_reached_77 : decode cX11_reached 77 = .ok (.iinc 5 1, 3) := by decide +kernel
theorem dX11_reached_80 : decode cX11_reached 80 = .ok (.goto (-48), 3) := by decide +kernel
theorem dX11_reached_83 : decode cX11_reached 83 = .ok (.iload 4, 2) := by decide +kernel
theorem dX11_reached_85 : decode cX11_reached 85 = .ok (.ireturn, 1) := by decide +kernel
theorem dX11_hook_0 : decode cX11_hook 0 = .ok (.iload_n 1, 1) := by decide +kernel
theorem dX11_hook_1 : decode cX11_hook 1 = .ok (.iconst 0, 1) := by decide +kernel
theorem dX11_hook_2 : decode cX11_hook 2 = .ok (.aload_n 0, 1) := by decide +kernel
theorem dX11_hook_3 : decode cX11_hook 3 = .ok (.getfield 13, 3) := by decide +kernel
theorem dX11_hook_6 : decode cX11_hook 6 = .ok (.iconst 3, 1) := by decide +kernel
theorem dX11_hook_7 : decode cX11_hook 7 = .ok (.iaload, 1) := by decide +kernel
theorem dX11_hook_8 : decode cX11_hook 8 = .ok (.iconst 1, 1) := by decide +kernel
theorem dX11_hook_9 : decode cX11_hook 9 = .ok (.isub, 1) := by decide +kernel
theorem dX11_hook_10 : decode cX11_hook 10 = .ok (.invokestatic 67, 3) := by decide +kernel
theorem dX11_hook_13 : decode cX11_hook 13 = .ok (.ifCond .ne 6, 3) := by decide +kernel
theorem dX11_hook_16 : decode cX11_hook 16 = .ok (.ldc 156, 2) := by decide +kernel
theorem dX11_hook_18 : decode cX11_hook 18 = .ok (.ireturn, 1) := by decide +kernel
theorem dX11_hook_19 : decode cX11_hook 19 = .ok (.iload_n 2, 1) := by decide +kernel
theorem dX11_hook_20 : decode cX11_hook 20 = .ok (.iconst 2, 1) := by decide +kernel
theorem dX11_hook_21 : decode cX11_hook 21 = .ok (.if_icmp .ne 11, 3) := by decide +kernel
theorem dX11_hook_24 : decode cX11_hook 24 = .ok (.aload_n 0, 1) := by decide +kernel
theorem dX11_hook_25 : decode cX11_hook 25 = .ok (.iload_n 1, 1) := by decide +kernel
theorem dX11_hook_26 : decode cX11_hook 26 = .ok (.invokevirtual 160, 3) := by decide +kernel
theorem dX11_hook_29 : decode cX11_hook 29 = .ok (.goto 30, 3) := by decide +kernel
theorem dX11_hook_32 : decode cX11_hook 32 = .ok (.iload_n 2, 1) := by decide +kernel
theorem dX11_hook_33 : decode cX11_hook 33 = .ok (.ifCond .eq 8, 3) := by decide +kernel
theorem dX11_hook_36 : decode cX11_hook 36 = .ok (.iload_n 2, 1) := by decide +kernel
theorem dX11_hook_37 : decode cX11_hook 37 = .ok (.iconst 1, 1) := by decide +kernel
theorem dX11_hook_38 : decode cX11_hook 38 = .ok (.if_icmp .ne 19, 3) := by decide +kernel
theorem dX11_hook_41 : decode cX11_hook 41 = .ok (.aload_n 0, 1) := by decide +kernel
theorem dX11_hook_42 : decode cX11_hook 42 = .ok (.getfield 13, 3) := by decide +kernel
theorem dX11_hook_45 : decode cX11_hook 45 = .ok (.bipush 43, 2) := by decide +kernel
theorem dX11_hook_47 : decode cX11_hook 47 = .ok (.iconst 2, 1) := by decide +kernel
theorem dX11_hook_48 : decode cX11_hook 48 = .ok (.iload_n 1, 1) := by decide +kernel
theorem dX11_hook_49 : decode cX11_hook 49 = .ok (.imul, 1) := by decide +kernel
theorem dX11_hook_50 : decode cX11_hook 50 = .ok (.iadd, 1) := by decide +kernel
theorem dX11_hook_51 : decode cX11_hook 51 = .ok (.iload_n 2, 1) := by decide +kernel
theorem dX11_hook_52 : decode cX11_hook 52 = .ok (.iadd, 1) := by decide +kernel
theorem dX11_hook_53 : decode cX11_hook 53 = .ok (.iaload, 1) := by decide +kernel
theorem dX11_hook_54 : decode cX11_hook 54 = .ok (.goto 5, 3) := by decide +kernel
theorem dX11_hook_57 : decode cX11_hook 57 = .ok (.ldc 71, 2) := by decide +kernel
theorem dX11_hook_59 : decode cX11_hook 59 = .ok (.ireturn, 1) := by decide +kernel
theorem dX11_word_0 : decode cX11_word 0 = .ok (.iload_n 1, 1) := by decide +kernel
theorem dX11_word_1 : decode cX11_word 1 = .ok (.iconst 0, 1) := by decide +kernel
theorem dX11_word_2 : decode cX11_word 2 = .ok (.aload_n 0, 1) := by decide +kernel
theorem dX11_word_3 : decode cX11_word 3 = .ok (.getfield 13, 3) := by decide +kernel
theorem dX11_word_6 : decode cX11_word 6 = .ok (.iconst 2, 1) := by decide +kernel
theorem dX11_word_7 : decode cX11_word 7 = .ok (.iaload, 1) := by decide +kernel
theorem dX11_word_8 : decode cX11_word 8 = .ok (.iconst 1, 1) := by decide +kernel
theorem dX11_word_9 : decode cX11_word 9 = .ok (.isub, 1) := by decide +kernel
theorem dX11_word_10 : decode cX11_word 10 = .ok (.invokestatic 67, 3) := by decide +kernel
theorem dX11_word_13 : decode cX11_word 13 = .ok (.ifCond .ne 6, 3) := by decide +kernel
theorem dX11_word_16 : decode cX11_word 16 = .ok (.ldc 156, 2) := by decide +kernel
theorem dX11_word_18 : decode cX11_word 18 = .ok (.ireturn, 1) := by decide +kernel
theorem dX11_word_19 : decode cX11_word 19 = .ok (.iload_n 2, 1) := by decide +kernel
theorem dX11_word_20 : decode cX11_word 20 = .ok (.iconst 0, 1) := by decide +kernel
theorem dX11_word_21 : decode cX11_word 21 = .ok (.iconst 3, 1) := by decide +kernel
theorem dX11_word_22 : decode cX11_word 22 = .ok (.invokestatic 67, 3) := by decide +kernel
theorem dX11_word_25 : decode cX11_word 25 = .ok (.ifCond .ne 8, 3) := by decide +kernel
theorem dX11_word_28 : decode cX11_word 28 = .ok (.ldc 71, 2) := by decide +kernel
theorem dX11_word_30 : decode cX11_word 30 = .ok (.goto 29, 3) := by decide +kernel
theorem dX11_word_33 : decode cX11_word 33 = .ok (.iload_n 2, 1) := by decide +kernel
theorem dX11_word_34 : decode cX11_word 34 = .ok (.aload_n 0, 1) := by decide +kernel
theorem dX11_word_35 : decode cX11_word 35 = .ok (.iload_n 1, 1) := by decide +kernel
theorem dX11_word_36 : decode cX11_word 36 = .ok (.invokevirtual 125, 3) := by decide +kernel
theorem dX11_word_39 : decode cX11_word 39 = .ok (.if_icmp .ge 19, 3) := by decide +kernel
theorem dX11_word_42 : decode cX11_word 42 = .ok (.aload_n 0, 1) := by decide +kernel
theorem dX11_word_43 : decode cX11_word 43 = .ok (.getfield 13, 3) := by decide +kernel
theorem dX11_word_46 : decode cX11_word 46 = .ok (.bipush 19, 2) := by decide +kernel
theorem dX11_word_48 : decode cX11_word 48 = .ok (.iconst 4, 1) := by decide +kernel
theorem dX11_word_49 : decode cX11_word 49 = .ok (.iload_n 1, 1) := by decide +kernel
theorem dX11_word_50 : decode cX11_word 50 = .ok (.imul, 1) := by decide +kernel
theorem dX11_word_51 : decode cX11_word 51 = .ok (.iadd, 1) := by decide +kernel
theorem dX11_word_52 : decode cX11_word 52 = .ok (.iload_n 2, 1) := by decide +kernel
theorem dX11_word_53 : decode cX11_word 53 = .ok (.iadd, 1) := by decide +kernel
theorem dX11_word_54 : decode cX11_word 54 = .ok (.iaload, 1) := by decide +kernel
theorem dX11_word_55 : decode cX11_word 55 = .ok (.goto 4, 3) := by decide +kernel
theorem dX11_word_58 : decode cX11_word 58 = .ok (.iconst (-1), 1) := by decide +kernel
theorem dX11_word_59 : decode cX11_word 59 = .ok (.ireturn, 1) := by decide +kernel
theorem dX11_keeps_0 : decode cX11_keeps 0 = .ok (.aload_n 0, 1) := by decide +kernel
theorem dX11_keeps_1 : decode cX11_keeps 1 = .ok (.getfield 109, 3) := by decide +kernel
theorem dX11_keeps_4 : decode cX11_keeps 4 = .ok (.bipush 30, 2) := by decide +kernel
theorem dX11_keeps_6 : decode cX11_keeps 6 = .ok (.if_icmp .ne 43, 3) := by decide +kernel
theorem dX11_keeps_9 : decode cX11_keeps 9 = .ok (.iconst 0, 1) := by decide +kernel
theorem dX11_keeps_10 : decode cX11_keeps 10 = .ok (.istore_n 1, 1) := by decide +kernel
theorem dX11_keeps_11 : decode cX11_keeps 11 = .ok (.iload_n 1, 1) := by decide +kernel
theorem dX11_keeps_12 : decode cX11_keeps 12 = .ok (.sipush 725, 3) := by decide +kernel
theorem dX11_keeps_15 : decode cX11_keeps 15 = .ok (.if_icmp .ge 24, 3) := by decide +kernel
theorem dX11_keeps_18 : decode cX11_keeps 18 = .ok (.aload_n 0, 1) := by decide +kernel
theorem dX11_keeps_19 : decode cX11_keeps 19 = .ok (.getfield 22, 3) := by decide +kernel
theorem dX11_keeps_22 : decode cX11_keeps 22 = .ok (.iload_n 1, 1) := by decide +kernel
theorem dX11_keeps_23 : decode cX11_keeps 23 = .ok (.aload_n 0, 1) := by decide +kernel
theorem dX11_keeps_24 : decode cX11_keeps 24 = .ok (.getfield 22, 3) := by decide +kernel
theorem dX11_keeps_27 : decode cX11_keeps 27 = .ok (.iload_n 1, 1) := by decide +kernel
theorem dX11_keeps_28 : decode cX11_keeps 28 = .ok (.bipush 25, 2) := by decide +kernel
theorem dX11_keeps_30 : decode cX11_keeps 30 = .ok (.iadd, 1) := by decide +kernel
theorem dX11_keeps_31 : decode cX11_keeps 31 = .ok (.iaload, 1) := by decide +kernel
theorem dX11_keeps_32 : decode cX11_keeps 32 = .ok (.iastore, 1) := by decide +kernel
theorem dX11_keeps_33 : decode cX11_keeps 33 = .ok (.iinc 1 1, 3) := by decide +kernel
theorem dX11_keeps_36 : decode cX11_keeps 36 = .ok (.goto (-25), 3) := by decide +kernel
theorem dX11_keeps_39 : decode cX11_keeps 39 = .ok (.aload_n 0, 1) := by decide +kernel
theorem dX11_keeps_40 : decode cX11_keeps 40 = .ok (.dup, 1) := by decide +kernel
theorem dX11_keeps_41 : decode cX11_keeps 41 = .ok (.getfield 109, 3) := by decide +kernel
theorem dX11_keeps_44 : decode cX11_keeps 44 = .ok (.iconst 1, 1) := by decide +kernel
theorem dX11_keeps_45 : decode cX11_keeps 45 = .ok (.isub, 1) := by decide +kernel
theorem dX11_keeps_46 : decode cX11_keeps 46 = .ok (.putfield 109, 3) := by decide +kernel
theorem dX11_keeps_49 : decode cX11_keeps 49 = .ok (.iconst 0, 1) := by decide +kernel
theorem dX11_keeps_50 : decode cX11_keeps 50 = .ok (.istore_n 1, 1) := by decide +kernel
theorem dX11_keeps_51 : decode cX11_keeps 51 = .ok (.iload_n 1, 1) := by decide +kernel
theorem dX11_keeps_52 : decode cX11_keeps 52 = .ok (.bipush 25, 2) := by decide +kernel
theorem dX11_keeps_54 : decode cX11_keeps 54 = .ok (.if_icmp .ge 29, 3) := by decide +kernel
theorem dX11_keeps_57 : decode cX11_keeps 57 = .ok (.aload_n 0, 1) := by decide +kernel
theorem dX11_keeps_58 : decode cX11_keeps 58 = .ok (.getfield 22, 3) := by decide +kernel
theorem dX11_keeps_61 : decode cX11_keeps 61 = .ok (.bipush 25, 2) := by decide +kernel
theorem dX11_keeps_63 : decode cX11_keeps 63 = .ok (.aload_n 0, 1) := by decide +kernel
theorem dX11_keeps_64 : decode cX11_keeps 64 = .ok (.getfield 109, 3) := by decide +kernel
theorem dX11_keeps_67 : decode cX11_keeps 67 = .ok (.imul, 1) := by decide +kernel
theorem dX11_keeps_68 : decode cX11_keeps 68 = .ok (.iload_n 1, 1) := by decide +kernel
theorem dX11_keeps_69 : decode cX11_keeps 69 = .ok (.iadd, 1) := by decide +kernel
theorem dX11_keeps_70 : decode cX11_keeps 70 = .ok (.aload_n 0, 1) := by decide +kernel
theorem dX11_keeps_71 : decode cX11_keeps 71 = .ok (.getfield 19, 3) := by decide +kernel
theorem dX11_keeps_74 : decode cX11_keeps 74 = .ok (.iload_n 1, 1) := by decide +kernel
theorem dX11_keeps_75 : decode cX11_keeps 75 = .ok (.iaload, 1) := by decide +kernel
theorem dX11_keeps_76 : decode cX11_keeps 76 = .ok (.iastore, 1) := by decide +kernel
theorem dX11_keeps_77 : decode cX11_keeps 77 = .ok (.iinc 1 1, 3) := by decide +kernel
theorem dX11_keeps_80 : decode cX11_keeps 80 = .ok (.goto (-29), 3) := by decide +kernel
theorem dX11_keeps_83 : decode cX11_keeps 83 = .ok (.aload_n 0, 1) := by decide +kernel
theorem dX11_keeps_84 : decode cX11_keeps 84 = .ok (.dup, 1) := by decide +kernel
theorem dX11_keeps_85 : decode cX11_keeps 85 = .ok (.getfield 109, 3) := by decide +kernel
theorem dX11_keeps_88 : decode cX11_keeps 88 = .ok (.iconst 1, 1) := by decide +kernel
theorem dX11_keeps_89 : decode cX11_keeps 89 = .ok (.iadd, 1) := by decide +kernel
theorem dX11_keeps_90 : decode cX11_keeps 90 = .ok (.putfield 109, 3) := by decide +kernel
theorem dX11_keeps_93 : decode cX11_keeps 93 = .ok (.return_, 1) := by decide +kernel
theorem dX11_turn_0 : decode cX11_turn 0 = .ok (.iload_n 1, 1) := by decide +kernel
theorem dX11_turn_1 : decode cX11_turn 1 = .ok (.iconst 2, 1) := by decide +kernel
theorem dX11_turn_2 : decode cX11_turn 2 = .ok (.aload_n 0, 1) := by decide +kernel
theorem dX11_turn_3 : decode cX11_turn 3 = .ok (.getfield 19, 3) := by decide +kernel
theorem dX11_turn_6 : decode cX11_turn 6 = .ok (.iconst 2, 1) := by decide +kernel
theorem dX11_turn_7 : decode cX11_turn 7 = .ok (.iaload, 1) := by decide +kernel
theorem dX11_turn_8 : decode cX11_turn 8 = .ok (.invokestatic 67, 3) := by decide +kernel
theorem dX11_turn_11 : decode cX11_turn 11 = .ok (.ifCond .ne 6, 3) := by decide +kernel
theorem dX11_turn_14 : decode cX11_turn 14 = .ok (.ldc 71, 2) := by decide +kernel
theorem dX11_turn_16 : decode cX11_turn 16 = .ok (.ireturn, 1) := by decide +kernel
theorem dX11_turn_17 : decode cX11_turn 17 = .ok (.aload_n 0, 1) := by decide +kernel
theorem dX11_turn_18 : decode cX11_turn 18 = .ok (.invokevirtual 163, 3) := by decide +kernel
theorem dX11_turn_21 : decode cX11_turn 21 = .ok (.iconst 0, 1) := by decide +kernel
theorem dX11_turn_22 : decode cX11_turn 22 = .ok (.istore_n 2, 1) := by decide +kernel
theorem dX11_turn_23 : decode cX11_turn 23 = .ok (.iload_n 2, 1) := by decide +kernel
theorem dX11_turn_24 : decode cX11_turn 24 = .ok (.iload_n 1, 1) := by decide +kernel
theorem dX11_turn_25 : decode cX11_turn 25 = .ok (.if_icmp .ge 23, 3) := by decide +kernel
theorem dX11_turn_28 : decode cX11_turn 28 = .ok (.aload_n 0, 1) := by decide +kernel
theorem dX11_turn_29 : decode cX11_turn 29 = .ok (.getfield 45, 3) := by decide +kernel
theorem dX11_turn_32 : decode cX11_turn 32 = .ok (.iload_n 2, 1) := by decide +kernel
theorem dX11_turn_33 : decode cX11_turn 33 = .ok (.aload_n 0, 1) := by decide +kernel
theorem dX11_turn_34 : decode cX11_turn 34 = .ok (.getfield 19, 3) := by decide +kernel
theorem dX11_turn_37 : decode cX11_turn 37 = .ok (.iconst 4, 1) := by decide +kernel
theorem dX11_turn_38 : decode cX11_turn 38 = .ok (.iload_n 2, 1) := by decide +kernel
theorem dX11_turn_39 : decode cX11_turn 39 = .ok (.iadd, 1) := by decide +kernel
theorem dX11_turn_40 : decode cX11_turn 40 = .ok (.iaload, 1) := by decide +kernel
theorem dX11_turn_41 : decode cX11_turn 41 = .ok (.iastore, 1) := by decide +kernel
theorem dX11_turn_42 : decode cX11_turn 42 = .ok (.iinc 2 1, 3) := by decide +kernel
theorem dX11_turn_45 : decode cX11_turn 45 = .ok (.goto (-22), 3) := by decide +kernel
theorem dX11_turn_48 : decode cX11_turn 48 = .ok (.iconst 0, 1) := by decide +kernel
theorem dX11_turn_49 : decode cX11_turn 49 = .ok (.istore_n 2, 1) := by decide +kernel
theorem dX11_turn_50 : decode cX11_turn 50 = .ok (.iload_n 2, 1) := by decide +kernel
theorem dX11_turn_51 : decode cX11_turn 51 = .ok (.iload_n 1, 1) := by decide +kernel
theorem dX11_turn_52 : decode cX11_turn 52 = .ok (.if_icmp .ge 27, 3) := by decide +kernel
theorem dX11_turn_55 : decode cX11_turn 55 = .ok (.aload_n 0, 1) := by decide +kernel
theorem dX11_turn_56 : decode cX11_turn 56 = .ok (.getfield 19, 3) := by decide +kernel
theorem dX11_turn_59 : decode cX11_turn 59 = .ok (.iconst 4, 1) := by decide +kernel
theorem dX11_turn_60 : decode cX11_turn 60 = .ok (.iload_n 2, 1) := by decide +kernel
theorem dX11_turn_61 : decode cX11_turn 61 = .ok (.iadd, 1) := by decide +kernel
theorem dX11_turn_62 : decode cX11_turn 62 = .ok (.aload_n 0, 1) := by decide +kernel
theorem dX11_turn_63 : decode cX11_turn 63 = .ok (.getfield 45, 3) := by decide +kernel
theorem dX11_turn_66 : decode cX11_turn 66 = .ok (.iload_n 1, 1) := by decide +kernel
theorem dX11_turn_67 : decode cX11_turn 67 = .ok (.iconst 1, 1) := by decide +kernel
theorem dX11_turn_68 : decode cX11_turn 68 = .ok (.isub, 1) := by decide +kernel
theorem dX11_turn_69 : decode cX11_turn 69 = .ok (.iload_n 2, 1) := by decide +kernel
theorem dX11_turn_70 : decode cX11_turn 70 = .ok (.isub, 1) := by decide +kernel
theorem dX11_turn_71 : decode cX11_turn 71 = .ok (.iaload, 1) := by decide +kernel
theorem dX11_turn_72 : decode cX11_turn 72 = .ok (.iastore, 1) := by decide +kernel
theorem dX11_turn_73 : decode cX11_turn 73 = .ok (.iinc 2 1, 3) := by decide +kernel
theorem dX11_turn_76 : decode cX11_turn 76 = .ok (.goto (-26), 3) := by decide +kernel
theorem dX11_turn_79 : decode cX11_turn 79 = .ok (.aload_n 0, 1) := by decide +kernel
theorem dX11_turn_80 : decode cX11_turn 80 = .ok (.getfield 19, 3) := by decide +kernel
theorem dX11_turn_83 : decode cX11_turn 83 = .ok (.iconst 4, 1) := by decide +kernel
theorem dX11_turn_84 : decode cX11_turn 84 = .ok (.iaload, 1) := by decide +kernel
theorem dX11_turn_85 : decode cX11_turn 85 = .ok (.ireturn, 1) := by decide +kernel
theorem dX11_cuts_0 : decode cX11_cuts 0 = .ok (.aload_n 0, 1) := by decide +kernel
theorem dX11_cuts_1 : decode cX11_cuts 1 = .ok (.getfield 19, 3) := by decide +kernel
theorem dX11_cuts_4 : decode cX11_cuts 4 = .ok (.iconst 2, 1) := by decide +kernel
theorem dX11_cuts_5 : decode cX11_cuts 5 = .ok (.iaload, 1) := by decide +kernel
theorem dX11_cuts_6 : decode cX11_cuts 6 = .ok (.istore_n 2, 1) := by decide +kernel
theorem dX11_cuts_7 : decode cX11_cuts 7 = .ok (.iconst 0, 1) := by decide +kernel
theorem dX11_cuts_8 : decode cX11_cuts 8 = .ok (.istore_n 3, 1) := by decide +kernel
theorem dX11_cuts_9 : decode cX11_cuts 9 = .ok (.iload_n 3, 1) := by decide +kernel
theorem dX11_cuts_10 : decode cX11_cuts 10 = .ok (.iload_n 2, 1) := by decide +kernel
theorem dX11_cuts_11 : decode cX11_cuts 11 = .ok (.if_icmp .ge 27, 3) := by decide +kernel
theorem dX11_cuts_14 : decode cX11_cuts 14 = .ok (.aload_n 0, 1) := by decide +kernel
theorem dX11_cuts_15 : decode cX11_cuts 15 = .ok (.getfield 45, 3) := by decide +kernel
theorem dX11_cuts_18 : decode cX11_cuts 18 = .ok (.iload_n 3, 1) := by decide +kernel
theorem dX11_cuts_19 : decode cX11_cuts 19 = .ok (.aload_n 0, 1) := by decide +kernel
theorem dX11_cuts_20 : decode cX11_cuts 20 = .ok (.getfield 19, 3) := by decide +kernel
theorem dX11_cuts_23 : decode cX11_cuts 23 = .ok (.iconst 4, 1) := by decide +kernel
theorem dX11_cuts_24 : decode cX11_cuts 24 = .ok (.iload_n 3, 1) := by decide +kernel
theorem dX11_cuts_25 : decode cX11_cuts 25 = .ok (.iload_n 1, 1) := by decide +kernel
theorem dX11_cuts_26 : decode cX11_cuts 26 = .ok (.iadd, 1) := by decide +kernel
theorem dX11_cuts_27 : decode cX11_cuts 27 = .ok (.iload_n 2, 1) := by decide +kernel
theorem dX11_cuts_28 : decode cX11_cuts 28 = .ok (.irem, 1) := by decide +kernel
theorem dX11_cuts_29 : decode cX11_cuts 29 = .ok (.iadd, 1) := by decide +kernel
theorem dX11_cuts_30 : decode cX11_cuts 30 = .ok (.iaload, 1) := by decide +kernel
theorem dX11_cuts_31 : decode cX11_cuts 31 = .ok (.iastore, 1) := by decide +kernel
theorem dX11_cuts_32 : decode cX11_cuts 32 = .ok (.iinc 3 1, 3) := by decide +kernel
theorem dX11_cuts_35 : decode cX11_cuts 35 = .ok (.goto (-26), 3) := by decide +kernel
theorem dX11_cuts_38 : decode cX11_cuts 38 = .ok (.iconst 0, 1) := by decide +kernel
theorem dX11_cuts_39 : decode cX11_cuts 39 = .ok (.istore_n 3, 1) := by decide +kernel
theorem dX11_cuts_40 : decode cX11_cuts 40 = .ok (.iload_n 3, 1) := by decide +kernel
theorem dX11_cuts_41 : decode cX11_cuts 41 = .ok (.iload_n 2, 1) := by decide +kernel
theorem dX11_cuts_42 : decode cX11_cuts 42 = .ok (.if_icmp .ge 23, 3) := by decide +kernel
theorem dX11_cuts_45 : decode cX11_cuts 45 = .ok (.aload_n 0, 1) := by decide +kernel
theorem dX11_cuts_46 : decode cX11_cuts 46 = .ok (.getfield 19, 3) := by decide +kernel
theorem dX11_cuts_49 : decode cX11_cuts 49 = .ok (.iconst 4, 1) := by decide +kernel
theorem dX11_cuts_50 : decode cX11_cuts 50 = .ok (.iload_n 3, 1) := by decide +kernel
theorem dX11_cuts_51 : decode cX11_cuts 51 = .ok (.iadd, 1) := by decide +kernel
theorem dX11_cuts_52 : decode cX11_cuts 52 = .ok (.aload_n 0, 1) := by decide +kernel
theorem dX11_cuts_53 : decode cX11_cuts 53 = .ok (.getfield 45, 3) := by decide +kernel
theorem dX11_cuts_56 : decode cX11_cuts 56 = .ok (.iload_n 3, 1) := by decide +kernel
theorem dX11_cuts_57 : decode cX11_cuts 57 = .ok (.iaload, 1) := by decide +kernel
theorem dX11_cuts_58 : decode cX11_cuts 58 = .ok (.iastore, 1) := by decide +kernel
theorem dX11_cuts_59 : decode cX11_cuts 59 = .ok (.iinc 3 1, 3) := by decide +kernel
theorem dX11_cuts_62 : decode cX11_cuts 62 = .ok (.goto (-22), 3) := by decide +kernel
theorem dX11_cuts_65 : decode cX11_cuts 65 = .ok (.return_, 1) := by decide +kernel
theorem dX11_cut_0 : decode cX11_cut 0 = .ok (.iload_n 1, 1) := by decide +kernel
theorem dX11_cut_1 : decode cX11_cut 1 = .ok (.iconst 1, 1) := by decide +kernel
theorem dX11_cut_2 : decode cX11_cut 2 = .ok (.aload_n 0, 1) := by decide +kernel
theorem dX11_cut_3 : decode cX11_cut 3 = .ok (.getfield 19, 3) := by decide +kernel
theorem dX11_cut_6 : decode cX11_cut 6 = .ok (.iconst 2, 1) := by decide +kernel
theorem dX11_cut_7 : decode cX11_cut 7 = .ok (.iaload, 1) := by decide +kernel
theorem dX11_cut_8 : decode cX11_cut 8 = .ok (.iconst 1, 1) := by decide +kernel
theorem dX11_cut_9 : decode cX11_cut 9 = .ok (.isub, 1) := by decide +kernel
theorem dX11_cut_10 : decode cX11_cut 10 = .ok (.invokestatic 67, 3) := by decide +kernel
theorem dX11_cut_13 : decode cX11_cut 13 = .ok (.ifCond .ne 6, 3) := by decide +kernel
theorem dX11_cut_16 : decode cX11_cut 16 = .ok (.ldc 71, 2) := by decide +kernel
theorem dX11_cut_18 : decode cX11_cut 18 = .ok (.ireturn, 1) := by decide +kernel
theorem dX11_cut_19 : decode cX11_cut 19 = .ok (.aload_n 0, 1) := by decide +kernel
theorem dX11_cut_20 : decode cX11_cut 20 = .ok (.invokevirtual 163, 3) := by decide +kernel
theorem dX11_cut_23 : decode cX11_cut 23 = .ok (.aload_n 0, 1) := by decide +kernel
theorem dX11_cut_24 : decode cX11_cut 24 = .ok (.iload_n 1, 1) := by decide +kernel
theorem dX11_cut_25 : decode cX11_cut 25 = .ok (.invokevirtual 166, 3) := by decide +kernel
theorem dX11_cut_28 : decode cX11_cut 28 = .ok (.aload_n 0, 1) := by decide +kernel
theorem dX11_cut_29 : decode cX11_cut 29 = .ok (.getfield 19, 3) := by decide +kernel
theorem dX11_cut_32 : decode cX11_cut 32 = .ok (.iconst 4, 1) := by decide +kernel
theorem dX11_cut_33 : decode cX11_cut 33 = .ok (.iaload, 1) := by decide +kernel
theorem dX11_cut_34 : decode cX11_cut 34 = .ok (.ireturn, 1) := by decide +kernel
theorem dX11_eats_0 : decode cX11_eats 0 = .ok (.aload_n 0, 1) := by decide +kernel
theorem dX11_eats_1 : decode cX11_eats 1 = .ok (.getfield 19, 3) := by decide +kernel
theorem dX11_eats_4 : decode cX11_eats 4 = .ok (.iconst 3, 1) := by decide +kernel
theorem dX11_eats_5 : decode cX11_eats 5 = .ok (.dup2, 1) := by decide +kernel
theorem dX11_eats_6 : decode cX11_eats 6 = .ok (.iaload, 1) := by decide +kernel
theorem dX11_eats_7 : decode cX11_eats 7 = .ok (.iconst 1, 1) := by decide +kernel
theorem dX11_eats_8 : decode cX11_eats 8 = .ok (.aload_n 0, 1) := by decide +kernel
theorem dX11_eats_9 : decode cX11_eats 9 = .ok (.getfield 19, 3) := by decide +kernel
theorem dX11_eats_12 : decode cX11_eats 12 = .ok (.iconst 4, 1) := by decide +kernel
theorem dX11_eats_13 : decode cX11_eats 13 = .ok (.iload_n 1, 1) := by decide +kernel
theorem dX11_eats_14 : decode cX11_eats 14 = .ok (.iadd, 1) := by decide +kernel
theorem dX11_eats_15 : decode cX11_eats 15 = .ok (.iaload, 1) := by decide +kernel
theorem dX11_eats_16 : decode cX11_eats 16 = .ok (.ishl, 1) := by decide +kernel
theorem dX11_eats_17 : decode cX11_eats 17 = .ok (.iconst (-1), 1) := by decide +kernel
theorem dX11_eats_18 : decode cX11_eats 18 = .ok (.ixor, 1) := by decide +kernel
theorem dX11_eats_19 : decode cX11_eats 19 = .ok (.iand, 1) := by decide +kernel
theorem dX11_eats_20 : decode cX11_eats 20 = .ok (.iastore, 1) := by decide +kernel
theorem dX11_eats_21 : decode cX11_eats 21 = .ok (.iload_n 1, 1) := by decide +kernel
theorem dX11_eats_22 : decode cX11_eats 22 = .ok (.istore_n 2, 1) := by decide +kernel
theorem dX11_eats_23 : decode cX11_eats 23 = .ok (.iload_n 2, 1) := by decide +kernel
theorem dX11_eats_24 : decode cX11_eats 24 = .ok (.aload_n 0, 1) := by decide +kernel
theorem dX11_eats_25 : decode cX11_eats 25 = .ok (.getfield 19, 3) := by decide +kernel
theorem dX11_eats_28 : decode cX11_eats 28 = .ok (.iconst 2, 1) := by decide +kernel
theorem dX11_eats_29 : decode cX11_eats 29 = .ok (.iaload, 1) := by decide +kernel
theorem dX11_eats_30 : decode cX11_eats 30 = .ok (.iconst 1, 1) := by decide +kernel
theorem dX11_eats_31 : decode cX11_eats 31 = .ok (.isub, 1) := by decide +kernel
theorem dX11_eats_32 : decode cX11_eats 32 = .ok (.if_icmp .ge 27, 3) := by decide +kernel
theorem dX11_eats_35 : decode cX11_eats 35 = .ok (.aload_n 0, 1) := by decide +kernel
theorem dX11_eats_36 : decode cX11_eats 36 = .ok (.getfield 19, 3) := by decide +kernel
theorem dX11_eats_39 : decode cX11_eats 39 = .ok (.iconst 4, 1) := by decide +kernel
theorem dX11_eats_40 : decode cX11_eats 40 = .ok (.iload_n 2, 1) := by decide +kernel
theorem dX11_eats_41 : decode cX11_eats 41 = .ok (.iadd, 1) := by decide +kernel
theorem dX11_eats_42 : decode cX11_eats 42 = .ok (.aload_n 0, 1) := by decide +kernel
theorem dX11_eats_43 : decode cX11_eats 43 = .ok (.getfield 19, 3) := by decide +kernel
theorem dX11_eats_46 : decode cX11_eats 46 = .ok (.iconst 4, 1) := by decide +kernel
theorem dX11_eats_47 : decode cX11_eats 47 = .ok (.iload_n 2, 1) := by decide +kernel
theorem dX11_eats_48 : decode cX11_eats 48 = .ok (.iadd, 1) := by decide +kernel
theorem dX11_eats_49 : decode cX11_eats 49 = .ok (.iconst 1, 1) := by decide +kernel
theorem dX11_eats_50 : decode cX11_eats 50 = .ok (.iadd, 1) := by decide +kernel
theorem dX11_eats_51 : decode cX11_eats 51 = .ok (.iaload, 1) := by decide +kernel
theorem dX11_eats_52 : decode cX11_eats 52 = .ok (.iastore, 1) := by decide +kernel
theorem dX11_eats_53 : decode cX11_eats 53 = .ok (.iinc 2 1, 3) := by decide +kernel
theorem dX11_eats_56 : decode cX11_eats 56 = .ok (.goto (-33), 3) := by decide +kernel
theorem dX11_eats_59 : decode cX11_eats 59 = .ok (.aload_n 0, 1) := by decide +kernel
theorem dX11_eats_60 : decode cX11_eats 60 = .ok (.getfield 19, 3) := by decide +kernel
theorem dX11_eats_63 : decode cX11_eats 63 = .ok (.iconst 2, 1) := by decide +kernel
theorem dX11_eats_64 : decode cX11_eats 64 = .ok (.dup2, 1) := by decide +kernel
theorem dX11_eats_65 : decode cX11_eats 65 = .ok (.iaload, 1) := by decide +kernel
theorem dX11_eats_66 : decode cX11_eats 66 = .ok (.iconst 1, 1) := by decide +kernel
theorem dX11_eats_67 : decode cX11_eats 67 = .ok (.isub, 1) := by decide +kernel
theorem dX11_eats_68 : decode cX11_eats 68 = .ok (.iastore, 1) := by decide +kernel
theorem dX11_eats_69 : decode cX11_eats 69 = .ok (.return_, 1) := by decide +kernel
theorem dX11_eat_0 : decode cX11_eat 0 = .ok (.aload_n 0, 1) := by decide +kernel
theorem dX11_eat_1 : decode cX11_eat 1 = .ok (.iload_n 1, 1) := by decide +kernel
theorem dX11_eat_2 : decode cX11_eat 2 = .ok (.invokevirtual 153, 3) := by decide +kernel
theorem dX11_eat_5 : decode cX11_eat 5 = .ok (.ifCond .ne 6, 3) := by decide +kernel
theorem dX11_eat_8 : decode cX11_eat 8 = .ok (.ldc 156, 2) := by decide +kernel
theorem dX11_eat_10 : decode cX11_eat 10 = .ok (.ireturn, 1) := by decide +kernel
theorem dX11_eat_11 : decode cX11_eat 11 = .ok (.aload_n 0, 1) := by decide +kernel
theorem dX11_eat_12 : decode cX11_eat 12 = .ok (.iload_n 1, 1) := by decide +kernel
theorem dX11_eat_13 : decode cX11_eat 13 = .ok (.invokevirtual 157, 3) := by decide +kernel
theorem dX11_eat_16 : decode cX11_eat 16 = .ok (.istore_n 2, 1) := by decide +kernel
theorem dX11_eat_17 : decode cX11_eat 17 = .ok (.iload_n 2, 1) := by decide +kernel
theorem dX11_eat_18 : decode cX11_eat 18 = .ok (.iconst (-1), 1) := by decide +kernel
theorem dX11_eat_19 : decode cX11_eat 19 = .ok (.if_icmp .ne 6, 3) := by decide +kernel
theorem dX11_eat_22 : decode cX11_eat 22 = .ok (.ldc 170, 2) := by decide +kernel
theorem dX11_eat_24 : decode cX11_eat 24 = .ok (.ireturn, 1) := by decide +kernel
theorem dX11_eat_25 : decode cX11_eat 25 = .ok (.aload_n 0, 1) := by decide +kernel
theorem dX11_eat_26 : decode cX11_eat 26 = .ok (.invokevirtual 163, 3) := by decide +kernel
theorem dX11_eat_29 : decode cX11_eat 29 = .ok (.aload_n 0, 1) := by decide +kernel
theorem dX11_eat_30 : decode cX11_eat 30 = .ok (.iload_n 2, 1) := by decide +kernel
theorem dX11_eat_31 : decode cX11_eat 31 = .ok (.invokevirtual 171, 3) := by decide +kernel
theorem dX11_eat_34 : decode cX11_eat 34 = .ok (.iload_n 2, 1) := by decide +kernel
theorem dX11_eat_35 : decode cX11_eat 35 = .ok (.ireturn, 1) := by decide +kernel
theorem dX11_sew_0 : decode cX11_sew 0 = .ok (.aload_n 0, 1) := by decide +kernel
theorem dX11_sew_1 : decode cX11_sew 1 = .ok (.iload_n 1, 1) := by decide +kernel
theorem dX11_sew_2 : decode cX11_sew 2 = .ok (.invokevirtual 153, 3) := by decide +kernel
theorem dX11_sew_5 : decode cX11_sew 5 = .ok (.ifCond .ne 6, 3) := by decide +kernel
theorem dX11_sew_8 : decode cX11_sew 8 = .ok (.ldc 156, 2) := by decide +kernel
theorem dX11_sew_10 : decode cX11_sew 10 = .ok (.ireturn, 1) := by decide +kernel
theorem dX11_sew_11 : decode cX11_sew 11 = .ok (.iload_n 2, 1) := by decide +kernel
theorem dX11_sew_12 : decode cX11_sew 12 = .ok (.iconst 0, 1) := by decide +kernel
theorem dX11_sew_13 : decode cX11_sew 13 = .ok (.aload_n 0, 1) := by decide +kernel
theorem dX11_sew_14 : decode cX11_sew 14 = .ok (.getfield 19, 3) := by decide +kernel
theorem dX11_sew_17 : decode cX11_sew 17 = .ok (.iconst 2, 1) := by decide +kernel
theorem dX11_sew_18 : decode cX11_sew 18 = .ok (.iaload, 1) := by decide +kernel
theorem dX11_sew_19 : decode cX11_sew 19 = .ok (.invokestatic 67, 3) := by decide +kernel
theorem dX11_sew_22 : decode cX11_sew 22 = .ok (.ifCond .ne 6, 3) := by decide +kernel
theorem dX11_sew_25 : decode cX11_sew 25 = .ok (.ldc 71, 2) := by decide +kernel
theorem dX11_sew_27 : decode cX11_sew 27 = .ok (.ireturn, 1) := by decide +kernel
theorem dX11_sew_28 : decode cX11_sew 28 = .ok (.aload_n 0, 1) := by decide +kernel
theorem dX11_sew_29 : decode cX11_sew 29 = .ok (.iload_n 1, 1) := by decide +kernel
theorem dX11_sew_30 : decode cX11_sew 30 = .ok (.invokevirtual 157, 3) := by decide +kernel
theorem dX11_sew_33 : decode cX11_sew 33 = .ok (.iconst (-1), 1) := by decide +kernel
theorem dX11_sew_34 : decode cX11_sew 34 = .ok (.if_icmp .eq 6, 3) := by decide +kernel
theorem dX11_sew_37 : decode cX11_sew 37 = .ok (.ldc 170, 2) := by decide +kernel
theorem dX11_sew_39 : decode cX11_sew 39 = .ok (.ireturn, 1) := by decide +kernel
theorem dX11_sew_40 : decode cX11_sew 40 = .ok (.aload_n 0, 1) := by decide +kernel
theorem dX11_sew_41 : decode cX11_sew 41 = .ok (.invokevirtual 163, 3) := by decide +kernel
theorem dX11_sew_44 : decode cX11_sew 44 = .ok (.aload_n 0, 1) := by decide +kernel
theorem dX11_sew_45 : decode cX11_sew 45 = .ok (.getfield 19, 3) := by decide +kernel
theorem dX11_sew_48 : decode cX11_sew 48 = .ok (.iconst 2, 1) := by decide +kernel
theorem dX11_sew_49 : decode cX11_sew 49 = .ok (.iaload, 1) := by decide +kernel
theorem dX11_sew_50 : decode cX11_sew 50 = .ok (.istore_n 3, 1) := by decide +kernel
theorem dX11_sew_51 : decode cX11_sew 51 = .ok (.iload_n 3, 1) := by decide +kernel
theorem dX11_sew_52 : decode cX11_sew 52 = .ok (.iload_n 2, 1) := by decide +kernel
theorem dX11_sew_53 : decode cX11_sew 53 = .ok (.if_icmp .le 27, 3) := by decide +kernel
theorem dX11_sew_56 : decode cX11_sew 56 = .ok (.aload_n 0, 1) := by decide +kernel
theorem dX11_sew_57 : decode cX11_sew 57 = .ok (.getfield 19, 3) := by decide +kernel
theorem dX11_sew_60 : decode cX11_sew 60 = .ok (.iconst 4, 1) := by decide +kernel
theorem dX11_sew_61 : decode cX11_sew 61 = .ok (.iload_n 3, 1) := by decide +kernel
theorem dX11_sew_62 : decode cX11_sew 62 = .ok (.iadd, 1) := by decide +kernel
theorem dX11_sew_63 : decode cX11_sew 63 = .ok (.aload_n 0, 1) := by decide +kernel
theorem dX11_sew_64 : decode cX11_sew 64 = .ok (.getfield 19, 3) := by decide +kernel
theorem dX11_sew_67 : decode cX11_sew 67 = .ok (.iconst 4, 1) := by decide +kernel
theorem dX11_sew_68 : decode cX11_sew 68 = .ok (.iload_n 3, 1) := by decide +kernel
theorem dX11_sew_69 : decode cX11_sew 69 = .ok (.iadd, 1) := by decide +kernel
theorem dX11_sew_70 : decode cX11_sew 70 = .ok (.iconst 1, 1) := by decide +kernel
theorem dX11_sew_71 : decode cX11_sew 71 = .ok (.isub, 1) := by decide +kernel
theorem dX11_sew_72 : decode cX11_sew 72 = .ok (.iaload, 1) := by decide +kernel
theorem dX11_sew_73 : decode cX11_sew 73 = .ok (.iastore, 1) := by decide +kernel
theorem dX11_sew_74 : decode cX11_sew 74 = .ok (.iinc 3 (-1), 3) := by decide +kernel
theorem dX11_sew_77 : decode cX11_sew 77 = .ok (.goto (-26), 3) := by decide +kernel
theorem dX11_sew_80 : decode cX11_sew 80 = .ok (.aload_n 0, 1) := by decide +kernel
theorem dX11_sew_81 : decode cX11_sew 81 = .ok (.getfield 19, 3) := by decide +kernel
theorem dX11_sew_84 : decode cX11_sew 84 = .ok (.iconst 4, 1) := by decide +kernel
theorem dX11_sew_85 : decode cX11_sew 85 = .ok (.iload_n 2, 1) := by decide +kernel
theorem dX11_sew_86 : decode cX11_sew 86 = .ok (.iadd, 1) := by decide +kernel
theorem dX11_sew_87 : decode cX11_sew 87 = .ok (.iload_n 1, 1) := by decide +kernel
theorem dX11_sew_88 : decode cX11_sew 88 = .ok (.iastore, 1) := by decide +kernel
theorem dX11_sew_89 : decode cX11_sew 89 = .ok (.aload_n 0, 1) := by decide +kernel
theorem dX11_sew_90 : decode cX11_sew 90 = .ok (.getfield 19, 3) := by decide +kernel
theorem dX11_sew_93 : decode cX11_sew 93 = .ok (.iconst 2, 1) := by decide +kernel
theorem dX11_sew_94 : decode cX11_sew 94 = .ok (.dup2, 1) := by decide +kernel
theorem dX11_sew_95 : decode cX11_sew 95 = .ok (.iaload, 1) := by decide +kernel
theorem dX11_sew_96 : decode cX11_sew 96 = .ok (.iconst 1, 1) := by decide +kernel
theorem dX11_sew_97 : decode cX11_sew 97 = .ok (.iadd, 1) := by decide +kernel
theorem dX11_sew_98 : decode cX11_sew 98 = .ok (.iastore, 1) := by decide +kernel
theorem dX11_sew_99 : decode cX11_sew 99 = .ok (.aload_n 0, 1) := by decide +kernel
theorem dX11_sew_100 : decode cX11_sew 100 = .ok (.getfield 19, 3) := by decide +kernel
theorem dX11_sew_103 : decode cX11_sew 103 = .ok (.bipush 11, 2) := by decide +kernel
theorem dX11_sew_105 : decode cX11_sew 105 = .ok (.iload_n 1, 1) := by decide +kernel
theorem dX11_sew_106 : decode cX11_sew 106 = .ok (.iadd, 1) := by decide +kernel
theorem dX11_sew_107 : decode cX11_sew 107 = .ok (.iconst 0, 1) := by decide +kernel
theorem dX11_sew_108 : decode cX11_sew 108 = .ok (.iastore, 1) := by decide +kernel
theorem dX11_sew_109 : decode cX11_sew 109 = .ok (.aload_n 0, 1) := by decide +kernel
theorem dX11_sew_110 : decode cX11_sew 110 = .ok (.getfield 19, 3) := by decide +kernel
theorem dX11_sew_113 : decode cX11_sew 113 = .ok (.bipush 18, 2) := by decide +kernel
theorem dX11_sew_115 : decode cX11_sew 115 = .ok (.iload_n 1, 1) := by decide +kernel
theorem dX11_sew_116 : decode cX11_sew 116 = .ok (.iadd, 1) := by decide +kernel
theorem dX11_sew_117 : decode cX11_sew 117 = .ok (.dup2, 1) := by decide +kernel
theorem dX11_sew_118 : decode cX11_sew 118 = .ok (.iaload, 1) := by decide +kernel
theorem dX11_sew_119 : decode cX11_sew 119 = .ok (.iconst 1, 1) := by decide +kernel
theorem dX11_sew_120 : decode cX11_sew 120 = .ok (.iadd, 1) := by decide +kernel
theorem dX11_sew_121 : decode cX11_sew 121 = .ok (.iastore, 1) := by decide +kernel
theorem dX11_sew_122 : decode cX11_sew 122 = .ok (.aload_n 0, 1) := by decide +kernel
theorem dX11_sew_123 : decode cX11_sew 123 = .ok (.getfield 19, 3) := by decide +kernel
