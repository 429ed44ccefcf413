theorem dX11_sew_126 : decode cX11_sew 126 = .ok (.iconst 2, 1) := by decide +kernel
theorem dX11_sew_127 : decode cX11_sew 127 = .ok (.iaload, 1) := by decide +kernel
theorem dX11_sew_128 : decode cX11_sew 128 = .ok (.ireturn, 1) := by decide +kernel
theorem dX11_rain_0 : decode cX11_rain 0 = .ok (.aload_n 0, 1) := by decide +kernel
theorem dX11_rain_1 : decode cX11_rain 1 = .ok (.getfield 13, 3) := by decide +kernel
theorem dX11_rain_4 : decode cX11_rain 4 = .ok (.iconst 0, 1) := by decide +kernel
theorem dX11_rain_5 : decode cX11_rain 5 = .ok (.iaload, 1) := by decide +kernel
theorem dX11_rain_6 : decode cX11_rain 6 = .ok (.ifCond .ne 6, 3) := by decide +kernel
theorem dX11_rain_9 : decode cX11_rain 9 = .ok (.ldc 170, 2) := by decide +kernel
theorem dX11_rain_11 : decode cX11_rain 11 = .ok (.ireturn, 1) := by decide +kernel
theorem dX11_rain_12 : decode cX11_rain 12 = .ok (.aload_n 0, 1) := by decide +kernel
theorem dX11_rain_13 : decode cX11_rain 13 = .ok (.invokevirtual 163, 3) := by decide +kernel
theorem dX11_rain_16 : decode cX11_rain 16 = .ok (.aload_n 0, 1) := by decide +kernel
theorem dX11_rain_17 : decode cX11_rain 17 = .ok (.getfield 19, 3) := by decide +kernel
theorem dX11_rain_20 : decode cX11_rain 20 = .ok (.iconst 3, 1) := by decide +kernel
theorem dX11_rain_21 : decode cX11_rain 21 = .ok (.iaload, 1) := by decide +kernel
theorem dX11_rain_22 : decode cX11_rain 22 = .ok (.invokestatic 174, 3) := by decide +kernel
theorem dX11_rain_25 : decode cX11_rain 25 = .ok (.istore_n 2, 1) := by decide +kernel
theorem dX11_rain_26 : decode cX11_rain 26 = .ok (.aload_n 0, 1) := by decide +kernel
theorem dX11_rain_27 : decode cX11_rain 27 = .ok (.getfield 19, 3) := by decide +kernel
theorem dX11_rain_30 : decode cX11_rain 30 = .ok (.iconst 3, 1) := by decide +kernel
theorem dX11_rain_31 : decode cX11_rain 31 = .ok (.iload_n 1, 1) := by decide +kernel
theorem dX11_rain_32 : decode cX11_rain 32 = .ok (.ifCond .eq 10, 3) := by decide +kernel
theorem dX11_rain_35 : decode cX11_rain 35 = .ok (.aload_n 0, 1) := by decide +kernel
theorem dX11_rain_36 : decode cX11_rain 36 = .ok (.invokevirtual 135, 3) := by decide +kernel
theorem dX11_rain_39 : decode cX11_rain 39 = .ok (.goto 4, 3) := by decide +kernel
theorem dX11_rain_42 : decode cX11_rain 42 = .ok (.iconst 0, 1) := by decide +kernel
theorem dX11_rain_43 : decode cX11_rain 43 = .ok (.iastore, 1) := by decide +kernel
theorem dX11_rain_44 : decode cX11_rain 44 = .ok (.iload_n 2, 1) := by decide +kernel
theorem dX11_rain_45 : decode cX11_rain 45 = .ok (.ireturn, 1) := by decide +kernel
theorem dX11_wind_0 : decode cX11_wind 0 = .ok (.iload_n 1, 1) := by decide +kernel
theorem dX11_wind_1 : decode cX11_wind 1 = .ok (.iconst 0, 1) := by decide +kernel
theorem dX11_wind_2 : decode cX11_wind 2 = .ok (.bipush 9, 2) := by decide +kernel
theorem dX11_wind_4 : decode cX11_wind 4 = .ok (.invokestatic 67, 3) := by decide +kernel
theorem dX11_wind_7 : decode cX11_wind 7 = .ok (.ifCond .ne 6, 3) := by decide +kernel
theorem dX11_wind_10 : decode cX11_wind 10 = .ok (.ldc 71, 2) := by decide +kernel
theorem dX11_wind_12 : decode cX11_wind 12 = .ok (.ireturn, 1) := by decide +kernel
theorem dX11_wind_13 : decode cX11_wind 13 = .ok (.aload_n 0, 1) := by decide +kernel
theorem dX11_wind_14 : decode cX11_wind 14 = .ok (.getfield 13, 3) := by decide +kernel
theorem dX11_wind_17 : decode cX11_wind 17 = .ok (.iconst 0, 1) := by decide +kernel
theorem dX11_wind_18 : decode cX11_wind 18 = .ok (.iaload, 1) := by decide +kernel
theorem dX11_wind_19 : decode cX11_wind 19 = .ok (.ifCond .ne 6, 3) := by decide +kernel
theorem dX11_wind_22 : decode cX11_wind 22 = .ok (.ldc 170, 2) := by decide +kernel
theorem dX11_wind_24 : decode cX11_wind 24 = .ok (.ireturn, 1) := by decide +kernel
theorem dX11_wind_25 : decode cX11_wind 25 = .ok (.aload_n 0, 1) := by decide +kernel
theorem dX11_wind_26 : decode cX11_wind 26 = .ok (.invokevirtual 163, 3) := by decide +kernel
theorem dX11_wind_29 : decode cX11_wind 29 = .ok (.aload_n 0, 1) := by decide +kernel
theorem dX11_wind_30 : decode cX11_wind 30 = .ok (.getfield 19, 3) := by decide +kernel
theorem dX11_wind_33 : decode cX11_wind 33 = .ok (.iconst 1, 1) := by decide +kernel
theorem dX11_wind_34 : decode cX11_wind 34 = .ok (.iaload, 1) := by decide +kernel
theorem dX11_wind_35 : decode cX11_wind 35 = .ok (.istore_n 2, 1) := by decide +kernel
theorem dX11_wind_36 : decode cX11_wind 36 = .ok (.aload_n 0, 1) := by decide +kernel
theorem dX11_wind_37 : decode cX11_wind 37 = .ok (.getfield 19, 3) := by decide +kernel
theorem dX11_wind_40 : decode cX11_wind 40 = .ok (.iconst 1, 1) := by decide +kernel
theorem dX11_wind_41 : decode cX11_wind 41 = .ok (.iload_n 1, 1) := by decide +kernel
theorem dX11_wind_42 : decode cX11_wind 42 = .ok (.iastore, 1) := by decide +kernel
theorem dX11_wind_43 : decode cX11_wind 43 = .ok (.iload_n 2, 1) := by decide +kernel
theorem dX11_wind_44 : decode cX11_wind 44 = .ok (.ireturn, 1) := by decide +kernel
theorem dX11_passes_0 : decode cX11_passes 0 = .ok (.aload_n 0, 1) := by decide +kernel
theorem dX11_passes_1 : decode cX11_passes 1 = .ok (.invokevirtual 138, 3) := by decide +kernel
theorem dX11_passes_4 : decode cX11_passes 4 = .ok (.istore_n 1, 1) := by decide +kernel
theorem dX11_passes_5 : decode cX11_passes 5 = .ok (.iconst 0, 1) := by decide +kernel
theorem dX11_passes_6 : decode cX11_passes 6 = .ok (.istore_n 2, 1) := by decide +kernel
theorem dX11_passes_7 : decode cX11_passes 7 = .ok (.iload_n 2, 1) := by decide +kernel
theorem dX11_passes_8 : decode cX11_passes 8 = .ok (.aload_n 0, 1) := by decide +kernel
theorem dX11_passes_9 : decode cX11_passes 9 = .ok (.getfield 13, 3) := by decide +kernel
theorem dX11_passes_12 : decode cX11_passes 12 = .ok (.iconst 1, 1) := by decide +kernel
theorem dX11_passes_13 : decode cX11_passes 13 = .ok (.iaload, 1) := by decide +kernel
theorem dX11_passes_14 : decode cX11_passes 14 = .ok (.if_icmp .ge 75, 3) := by decide +kernel
theorem dX11_passes_17 : decode cX11_passes 17 = .ok (.aload_n 0, 1) := by decide +kernel
theorem dX11_passes_18 : decode cX11_passes 18 = .ok (.iload_n 2, 1) := by decide +kernel
theorem dX11_passes_19 : decode cX11_passes 19 = .ok (.invokevirtual 157, 3) := by decide +kernel
theorem dX11_passes_22 : decode cX11_passes 22 = .ok (.iconst (-1), 1) := by decide +kernel
theorem dX11_passes_23 : decode cX11_passes 23 = .ok (.if_icmp .eq 60, 3) := by decide +kernel
theorem dX11_passes_26 : decode cX11_passes 26 = .ok (.aload_n 0, 1) := by decide +kernel
theorem dX11_passes_27 : decode cX11_passes 27 = .ok (.getfield 19, 3) := by decide +kernel
theorem dX11_passes_30 : decode cX11_passes 30 = .ok (.bipush 11, 2) := by decide +kernel
theorem dX11_passes_32 : decode cX11_passes 32 = .ok (.iload_n 2, 1) := by decide +kernel
theorem dX11_passes_33 : decode cX11_passes 33 = .ok (.iadd, 1) := by decide +kernel
theorem dX11_passes_34 : decode cX11_passes 34 = .ok (.iaload, 1) := by decide +kernel
theorem dX11_passes_35 : decode cX11_passes 35 = .ok (.iload_n 1, 1) := by decide +kernel
theorem dX11_passes_36 : decode cX11_passes 36 = .ok (.iload_n 2, 1) := by decide +kernel
theorem dX11_passes_37 : decode cX11_passes 37 = .ok (.invokestatic 118, 3) := by decide +kernel
theorem dX11_passes_40 : decode cX11_passes 40 = .ok (.ifCond .eq 19, 3) := by decide +kernel
theorem dX11_passes_43 : decode cX11_passes 43 = .ok (.aload_n 0, 1) := by decide +kernel
theorem dX11_passes_44 : decode cX11_passes 44 = .ok (.getfield 13, 3) := by decide +kernel
theorem dX11_passes_47 : decode cX11_passes 47 = .ok (.iconst 5, 1) := by decide +kernel
theorem dX11_passes_48 : decode cX11_passes 48 = .ok (.iload_n 2, 1) := by decide +kernel
theorem dX11_passes_49 : decode cX11_passes 49 = .ok (.iadd, 1) := by decide +kernel
theorem dX11_passes_50 : decode cX11_passes 50 = .ok (.iaload, 1) := by decide +kernel
theorem dX11_passes_51 : decode cX11_passes 51 = .ok (.iconst 3, 1) := by decide +kernel
theorem dX11_passes_52 : decode cX11_passes 52 = .ok (.if_icmp .eq 7, 3) := by decide +kernel
theorem dX11_passes_55 : decode cX11_passes 55 = .ok (.iconst 2, 1) := by decide +kernel
theorem dX11_passes_56 : decode cX11_passes 56 = .ok (.goto 4, 3) := by decide +kernel
theorem dX11_passes_59 : decode cX11_passes 59 = .ok (.iconst 1, 1) := by decide +kernel
theorem dX11_passes_60 : decode cX11_passes 60 = .ok (.iadd, 1) := by decide +kernel
theorem dX11_passes_61 : decode cX11_passes 61 = .ok (.istore_n 3, 1) := by decide +kernel
theorem dX11_passes_62 : decode cX11_passes 62 = .ok (.aload_n 0, 1) := by decide +kernel
theorem dX11_passes_63 : decode cX11_passes 63 = .ok (.getfield 19, 3) := by decide +kernel
theorem dX11_passes_66 : decode cX11_passes 66 = .ok (.bipush 11, 2) := by decide +kernel
theorem dX11_passes_68 : decode cX11_passes 68 = .ok (.iload_n 2, 1) := by decide +kernel
theorem dX11_passes_69 : decode cX11_passes 69 = .ok (.iadd, 1) := by decide +kernel
theorem dX11_passes_70 : decode cX11_passes 70 = .ok (.iload_n 3, 1) := by decide +kernel
theorem dX11_passes_71 : decode cX11_passes 71 = .ok (.bipush 99, 2) := by decide +kernel
theorem dX11_passes_73 : decode cX11_passes 73 = .ok (.if_icmp .le 8, 3) := by decide +kernel
theorem dX11_passes_76 : decode cX11_passes 76 = .ok (.bipush 99, 2) := by decide +kernel
theorem dX11_passes_78 : decode cX11_passes 78 = .ok (.goto 4, 3) := by decide +kernel
theorem dX11_passes_81 : decode cX11_passes 81 = .ok (.iload_n 3, 1) := by decide +kernel
theorem dX11_passes_82 : decode cX11_passes 82 = .ok (.iastore, 1) := by decide +kernel
theorem dX11_passes_83 : decode cX11_passes 83 = .ok (.iinc 2 1, 3) := by decide +kernel
theorem dX11_passes_86 : decode cX11_passes 86 = .ok (.goto (-79), 3) := by decide +kernel
theorem dX11_passes_89 : decode cX11_passes 89 = .ok (.iconst 0, 1) := by decide +kernel
theorem dX11_passes_90 : decode cX11_passes 90 = .ok (.istore_n 2, 1) := by decide +kernel
theorem dX11_passes_91 : decode cX11_passes 91 = .ok (.iload_n 2, 1) := by decide +kernel
theorem dX11_passes_92 : decode cX11_passes 92 = .ok (.aload_n 0, 1) := by decide +kernel
theorem dX11_passes_93 : decode cX11_passes 93 = .ok (.getfield 13, 3) := by decide +kernel
theorem dX11_passes_96 : decode cX11_passes 96 = .ok (.iconst 1, 1) := by decide +kernel
theorem dX11_passes_97 : decode cX11_passes 97 = .ok (.iaload, 1) := by decide +kernel
theorem dX11_passes_98 : decode cX11_passes 98 = .ok (.if_icmp .ge 53, 3) := by decide +kernel
theorem dX11_passes_101 : decode cX11_passes 101 = .ok (.aload_n 0, 1) := by decide +kernel
theorem dX11_passes_102 : decode cX11_passes 102 = .ok (.iload_n 2, 1) := by decide +kernel
theorem dX11_passes_103 : decode cX11_passes 103 = .ok (.invokevirtual 157, 3) := by decide +kernel
theorem dX11_passes_106 : decode cX11_passes 106 = .ok (.iconst (-1), 1) := by decide +kernel
theorem dX11_passes_107 : decode cX11_passes 107 = .ok (.if_icmp .eq 38, 3) := by decide +kernel
theorem dX11_passes_110 : decode cX11_passes 110 = .ok (.aload_n 0, 1) := by decide +kernel
theorem dX11_passes_111 : decode cX11_passes 111 = .ok (.getfield 13, 3) := by decide +kernel
theorem dX11_passes_114 : decode cX11_passes 114 = .ok (.iconst 5, 1) := by decide +kernel
theorem dX11_passes_115 : decode cX11_passes 115 = .ok (.iload_n 2, 1) := by decide +kernel
theorem dX11_passes_116 : decode cX11_passes 116 = .ok (.iadd, 1) := by decide +kernel
theorem dX11_passes_117 : decode cX11_passes 117 = .ok (.iaload, 1) := by decide +kernel
theorem dX11_passes_118 : decode cX11_passes 118 = .ok (.iconst 2, 1) := by decide +kernel
theorem dX11_passes_119 : decode cX11_passes 119 = .ok (.if_icmp .ne 26, 3) := by decide +kernel
theorem dX11_passes_122 : decode cX11_passes 122 = .ok (.aload_n 0, 1) := by decide +kernel
theorem dX11_passes_123 : decode cX11_passes 123 = .ok (.getfield 19, 3) := by decide +kernel
theorem dX11_passes_126 : decode cX11_passes 126 = .ok (.bipush 11, 2) := by decide +kernel
theorem dX11_passes_128 : decode cX11_passes 128 = .ok (.iload_n 2, 1) := by decide +kernel
theorem dX11_passes_129 : decode cX11_passes 129 = .ok (.iadd, 1) := by decide +kernel
theorem dX11_passes_130 : decode cX11_passes 130 = .ok (.iaload, 1) := by decide +kernel
theorem dX11_passes_131 : decode cX11_passes 131 = .ok (.bipush 40, 2) := by decide +kernel
theorem dX11_passes_133 : decode cX11_passes 133 = .ok (.if_icmp .lt 12, 3) := by decide +kernel
theorem dX11_passes_136 : decode cX11_passes 136 = .ok (.aload_n 0, 1) := by decide +kernel
theorem dX11_passes_137 : decode cX11_passes 137 = .ok (.aload_n 0, 1) := by decide +kernel
theorem dX11_passes_138 : decode cX11_passes 138 = .ok (.iload_n 2, 1) := by decide +kernel
theorem dX11_passes_139 : decode cX11_passes 139 = .ok (.invokevirtual 157, 3) := by decide +kernel
theorem dX11_passes_142 : decode cX11_passes 142 = .ok (.invokevirtual 171, 3) := by decide +kernel
theorem dX11_passes_145 : decode cX11_passes 145 = .ok (.iinc 2 1, 3) := by decide +kernel
theorem dX11_passes_148 : decode cX11_passes 148 = .ok (.goto (-57), 3) := by decide +kernel
theorem dX11_passes_151 : decode cX11_passes 151 = .ok (.aload_n 0, 1) := by decide +kernel
theorem dX11_passes_152 : decode cX11_passes 152 = .ok (.getfield 19, 3) := by decide +kernel
theorem dX11_passes_155 : decode cX11_passes 155 = .ok (.iconst 3, 1) := by decide +kernel
theorem dX11_passes_156 : decode cX11_passes 156 = .ok (.iconst 0, 1) := by decide +kernel
theorem dX11_passes_157 : decode cX11_passes 157 = .ok (.iastore, 1) := by decide +kernel
theorem dX11_passes_158 : decode cX11_passes 158 = .ok (.aload_n 0, 1) := by decide +kernel
theorem dX11_passes_159 : decode cX11_passes 159 = .ok (.getfield 19, 3) := by decide +kernel
theorem dX11_passes_162 : decode cX11_passes 162 = .ok (.iconst 0, 1) := by decide +kernel
theorem dX11_passes_163 : decode cX11_passes 163 = .ok (.dup2, 1) := by decide +kernel
theorem dX11_passes_164 : decode cX11_passes 164 = .ok (.iaload, 1) := by decide +kernel
theorem dX11_passes_165 : decode cX11_passes 165 = .ok (.iconst 1, 1) := by decide +kernel
theorem dX11_passes_166 : decode cX11_passes 166 = .ok (.iadd, 1) := by decide +kernel
theorem dX11_passes_167 : decode cX11_passes 167 = .ok (.iastore, 1) := by decide +kernel
theorem dX11_passes_168 : decode cX11_passes 168 = .ok (.return_, 1) := by decide +kernel
theorem dX11_year_0 : decode cX11_year 0 = .ok (.iload_n 1, 1) := by decide +kernel
theorem dX11_year_1 : decode cX11_year 1 = .ok (.iconst 1, 1) := by decide +kernel
theorem dX11_year_2 : decode cX11_year 2 = .ok (.bipush 20, 2) := by decide +kernel
theorem dX11_year_4 : decode cX11_year 4 = .ok (.invokestatic 67, 3) := by decide +kernel
theorem dX11_year_7 : decode cX11_year 7 = .ok (.ifCond .ne 6, 3) := by decide +kernel
theorem dX11_year_10 : decode cX11_year 10 = .ok (.ldc 71, 2) := by decide +kernel
theorem dX11_year_12 : decode cX11_year 12 = .ok (.ireturn, 1) := by decide +kernel
theorem dX11_year_13 : decode cX11_year 13 = .ok (.aload_n 0, 1) := by decide +kernel
theorem dX11_year_14 : decode cX11_year 14 = .ok (.getfield 13, 3) := by decide +kernel
theorem dX11_year_17 : decode cX11_year 17 = .ok (.iconst 0, 1) := by decide +kernel
theorem dX11_year_18 : decode cX11_year 18 = .ok (.iaload, 1) := by decide +kernel
theorem dX11_year_19 : decode cX11_year 19 = .ok (.ifCond .ne 6, 3) := by decide +kernel
theorem dX11_year_22 : decode cX11_year 22 = .ok (.ldc 170, 2) := by decide +kernel
theorem dX11_year_24 : decode cX11_year 24 = .ok (.ireturn, 1) := by decide +kernel
theorem dX11_year_25 : decode cX11_year 25 = .ok (.aload_n 0, 1) := by decide +kernel
theorem dX11_year_26 : decode cX11_year 26 = .ok (.getfield 19, 3) := by decide +kernel
theorem dX11_year_29 : decode cX11_year 29 = .ok (.iconst 0, 1) := by decide +kernel
theorem dX11_year_30 : decode cX11_year 30 = .ok (.iaload, 1) := by decide +kernel
theorem dX11_year_31 : decode cX11_year 31 = .ok (.sipush 9000, 3) := by decide +kernel
theorem dX11_year_34 : decode cX11_year 34 = .ok (.if_icmp .le 6, 3) := by decide +kernel
theorem dX11_year_37 : decode cX11_year 37 = .ok (.ldc 75, 2) := by decide +kernel
theorem dX11_year_39 : decode cX11_year 39 = .ok (.ireturn, 1) := by decide +kernel
theorem dX11_year_40 : decode cX11_year 40 = .ok (.iconst 0, 1) := by decide +kernel
theorem dX11_year_41 : decode cX11_year 41 = .ok (.istore_n 2, 1) := by decide +kernel
theorem dX11_year_42 : decode cX11_year 42 = .ok (.iload_n 2, 1) := by decide +kernel
theorem dX11_year_43 : decode cX11_year 43 = .ok (.iload_n 1, 1) := by decide +kernel
theorem dX11_year_44 : decode cX11_year 44 = .ok (.if_icmp .ge 17, 3) := by decide +kernel
theorem dX11_year_47 : decode cX11_year 47 = .ok (.aload_n 0, 1) := by decide +kernel
theorem dX11_year_48 : decode cX11_year 48 = .ok (.invokevirtual 163, 3) := by decide +kernel
theorem dX11_year_51 : decode cX11_year 51 = .ok (.aload_n 0, 1) := by decide +kernel
theorem dX11_year_52 : decode cX11_year 52 = .ok (.invokevirtual 177, 3) := by decide +kernel
theorem dX11_year_55 : decode cX11_year 55 = .ok (.iinc 2 1, 3) := by decide +kernel
theorem dX11_year_58 : decode cX11_year 58 = .ok (.goto (-16), 3) := by decide +kernel
theorem dX11_year_61 : decode cX11_year 61 = .ok (.aload_n 0, 1) := by decide +kernel
theorem dX11_year_62 : decode cX11_year 62 = .ok (.getfield 19, 3) := by decide +kernel
theorem dX11_year_65 : decode cX11_year 65 = .ok (.iconst 2, 1) := by decide +kernel
theorem dX11_year_66 : decode cX11_year 66 = .ok (.iaload, 1) := by decide +kernel
theorem dX11_year_67 : decode cX11_year 67 = .ok (.ireturn, 1) := by decide +kernel
theorem dX11_draws_0 : decode cX11_draws 0 = .ok (.aload_n 0, 1) := by decide +kernel
theorem dX11_draws_1 : decode cX11_draws 1 = .ok (.aload_n 0, 1) := by decide +kernel
theorem dX11_draws_2 : decode cX11_draws 2 = .ok (.getfield 180, 3) := by decide +kernel
theorem dX11_draws_5 : decode cX11_draws 5 = .ok (.ldc 183, 2) := by decide +kernel
theorem dX11_draws_7 : decode cX11_draws 7 = .ok (.imul, 1) := by decide +kernel
theorem dX11_draws_8 : decode cX11_draws 8 = .ok (.sipush 12345, 3) := by decide +kernel
theorem dX11_draws_11 : decode cX11_draws 11 = .ok (.iadd, 1) := by decide +kernel
theorem dX11_draws_12 : decode cX11_draws 12 = .ok (.ldc 184, 2) := by decide +kernel
theorem dX11_draws_14 : decode cX11_draws 14 = .ok (.iand, 1) := by decide +kernel
theorem dX11_draws_15 : decode cX11_draws 15 = .ok (.putfield 180, 3) := by decide +kernel
theorem dX11_draws_18 : decode cX11_draws 18 = .ok (.aload_n 0, 1) := by decide +kernel
theorem dX11_draws_19 : decode cX11_draws 19 = .ok (.getfield 180, 3) := by decide +kernel
theorem dX11_draws_22 : decode cX11_draws 22 = .ok (.ldc 185, 2) := by decide +kernel
theorem dX11_draws_24 : decode cX11_draws 24 = .ok (.idiv, 1) := by decide +kernel
theorem dX11_draws_25 : decode cX11_draws 25 = .ok (.iload_n 1, 1) := by decide +kernel
theorem dX11_draws_26 : decode cX11_draws 26 = .ok (.irem, 1) := by decide +kernel
theorem dX11_draws_27 : decode cX11_draws 27 = .ok (.ireturn, 1) := by decide +kernel
theorem dX11_drift_0 : decode cX11_drift 0 = .ok (.iload_n 1, 1) := by decide +kernel
theorem dX11_drift_1 : decode cX11_drift 1 = .ok (.iconst 1, 1) := by decide +kernel
theorem dX11_drift_2 : decode cX11_drift 2 = .ok (.bipush 20, 2) := by decide +kernel
theorem dX11_drift_4 : decode cX11_drift 4 = .ok (.invokestatic 67, 3) := by decide +kernel
theorem dX11_drift_7 : decode cX11_drift 7 = .ok (.ifCond .ne 6, 3) := by decide +kernel
theorem dX11_drift_10 : decode cX11_drift 10 = .ok (.ldc 71, 2) := by decide +kernel
theorem dX11_drift_12 : decode cX11_drift 12 = .ok (.ireturn, 1) := by decide +kernel
theorem dX11_drift_13 : decode cX11_drift 13 = .ok (.aload_n 0, 1) := by decide +kernel
theorem dX11_drift_14 : decode cX11_drift 14 = .ok (.getfield 13, 3) := by decide +kernel
theorem dX11_drift_17 : decode cX11_drift 17 = .ok (.iconst 0, 1) := by decide +kernel
theorem dX11_drift_18 : decode cX11_drift 18 = .ok (.iaload, 1) := by decide +kernel
theorem dX11_drift_19 : decode cX11_drift 19 = .ok (.ifCond .ne 6, 3) := by decide +kernel
theorem dX11_drift_22 : decode cX11_drift 22 = .ok (.ldc 170, 2) := by decide +kernel
theorem dX11_drift_24 : decode cX11_drift 24 = .ok (.ireturn, 1) := by decide +kernel
theorem dX11_drift_25 : decode cX11_drift 25 = .ok (.aload_n 0, 1) := by decide +kernel
theorem dX11_drift_26 : decode cX11_drift 26 = .ok (.getfield 19, 3) := by decide +kernel
theorem dX11_drift_29 : decode cX11_drift 29 = .ok (.iconst 0, 1) := by decide +kernel
theorem dX11_drift_30 : decode cX11_drift 30 = .ok (.iaload, 1) := by decide +kernel
theorem dX11_drift_31 : decode cX11_drift 31 = .ok (.sipush 9000, 3) := by decide +kernel
theorem dX11_drift_34 : decode cX11_drift 34 = .ok (.if_icmp .le 6, 3) := by decide +kernel
theorem dX11_drift_37 : decode cX11_drift 37 = .ok (.ldc 75, 2) := by decide +kernel
theorem dX11_drift_39 : decode cX11_drift 39 = .ok (.ireturn, 1) := by decide +kernel
theorem dX11_drift_40 : decode cX11_drift 40 = .ok (.iconst 0, 1) := by decide +kernel
theorem dX11_drift_41 : decode cX11_drift 41 = .ok (.istore_n 2, 1) := by decide +kernel
theorem dX11_drift_42 : decode cX11_drift 42 = .ok (.iload_n 2, 1) := by decide +kernel
theorem dX11_drift_43 : decode cX11_drift 43 = .ok (.iload_n 1, 1) := by decide +kernel
theorem dX11_drift_44 : decode cX11_drift 44 = .ok (.if_icmp .ge 121, 3) := by decide +kernel
theorem dX11_drift_47 : decode cX11_drift 47 = .ok (.aload_n 0, 1) := by decide +kernel
theorem dX11_drift_48 : decode cX11_drift 48 = .ok (.invokevirtual 163, 3) := by decide +kernel
theorem dX11_drift_51 : decode cX11_drift 51 = .ok (.aload_n 0, 1) := by decide +kernel
theorem dX11_drift_52 : decode cX11_drift 52 = .ok (.bipush 6, 2) := by decide +kernel
theorem dX11_drift_54 : decode cX11_drift 54 = .ok (.invokevirtual 186, 3) := by decide +kernel
theorem dX11_drift_57 : decode cX11_drift 57 = .ok (.istore_n 3, 1) := by decide +kernel
theorem dX11_drift_58 : decode cX11_drift 58 = .ok (.iload_n 3, 1) := by decide +kernel
theorem dX11_drift_59 : decode cX11_drift 59 = .ok (.ifCond .ne 18, 3) := by decide +kernel
theorem dX11_drift_62 : decode cX11_drift 62 = .ok (.aload_n 0, 1) := by decide +kernel
theorem dX11_drift_63 : decode cX11_drift 63 = .ok (.getfield 19, 3) := by decide +kernel
theorem dX11_drift_66 : decode cX11_drift 66 = .ok (.iconst 1, 1) := by decide +kernel
theorem dX11_drift_67 : decode cX11_drift 67 = .ok (.aload_n 0, 1) := by decide +kernel
theorem dX11_drift_68 : decode cX11_drift 68 = .ok (.bipush 10, 2) := by decide +kernel
theorem dX11_drift_70 : decode cX11_drift 70 = .ok (.invokevirtual 186, 3) := by decide +kernel
theorem dX11_drift_73 : decode cX11_drift 73 = .ok (.iastore, 1) := by decide +kernel
theorem dX11_drift_74 : decode cX11_drift 74 = .ok (.goto 81, 3) := by decide +kernel
theorem dX11_drift_77 : decode cX11_drift 77 = .ok (.iload_n 3, 1) := by decide +kernel
theorem dX11_drift_78 : decode cX11_drift 78 = .ok (.iconst 1, 1) := by decide +kernel
theorem dX11_drift_79 : decode cX11_drift 79 = .ok (.if_icmp .ne 16, 3) := by decide +kernel
theorem dX11_drift_82 : decode cX11_drift 82 = .ok (.aload_n 0, 1) := by decide +kernel
theorem dX11_drift_83 : decode cX11_drift 83 = .ok (.getfield 19, 3) := by decide +kernel
theorem dX11_drift_86 : decode cX11_drift 86 = .ok (.iconst 3, 1) := by decide +kernel
theorem dX11_drift_87 : decode cX11_drift 87 = .ok (.aload_n 0, 1) := by decide +kernel
theorem dX11_drift_88 : decode cX11_drift 88 = .ok (.invokevirtual 135, 3) := by decide +kernel
theorem dX11_drift_91 : decode cX11_drift 91 = .ok (.iastore, 1) := by decide +kernel
theorem dX11_drift_92 : decode cX11_drift 92 = .ok (.goto 63, 3) := by decide +kernel
theorem dX11_drift_95 : decode cX11_drift 95 = .ok (.iload_n 3, 1) := by decide +kernel
theorem dX11_drift_96 : decode cX11_drift 96 = .ok (.iconst 2, 1) := by decide +kernel
theorem dX11_drift_97 : decode cX11_drift 97 = .ok (.if_icmp .ne 30, 3) := by decide +kernel
theorem dX11_drift_100 : decode cX11_drift 100 = .ok (.aload_n 0, 1) := by decide +kernel
theorem dX11_drift_101 : decode cX11_drift 101 = .ok (.getfield 19, 3) := by decide +kernel
theorem dX11_drift_104 : decode cX11_drift 104 = .ok (.iconst 2, 1) := by decide +kernel
theorem dX11_drift_105 : decode cX11_drift 105 = .ok (.iaload, 1) := by decide +kernel
theorem dX11_drift_106 : decode cX11_drift 106 = .ok (.iconst 1, 1) := by decide +kernel
theorem dX11_drift_107 : decode cX11_drift 107 = .ok (.if_icmp .le 20, 3) := by decide +kernel
theorem dX11_drift_110 : decode cX11_drift 110 = .ok (.aload_n 0, 1) := by decide +kernel
theorem dX11_drift_111 : decode cX11_drift 111 = .ok (.aload_n 0, 1) := by decide +kernel
theorem dX11_drift_112 : decode cX11_drift 112 = .ok (.aload_n 0, 1) := by decide +kernel
theorem dX11_drift_113 : decode cX11_drift 113 = .ok (.getfield 19, 3) := by decide +kernel
theorem dX11_drift_116 : decode cX11_drift 116 = .ok (.iconst 2, 1) := by decide +kernel
theorem dX11_drift_117 : decode cX11_drift 117 = .ok (.iaload, 1) := by decide +kernel
theorem dX11_drift_118 : decode cX11_drift 118 = .ok (.invokevirtual 186, 3) := by decide +kernel
theorem dX11_drift_121 : decode cX11_drift 121 = .ok (.invokevirtual 166, 3) := by decide +kernel
theorem dX11_drift_124 : decode cX11_drift 124 = .ok (.goto 31, 3) := by decide +kernel
theorem dX11_drift_127 : decode cX11_drift 127 = .ok (.iload_n 3, 1) := by decide +kernel
theorem dX11_drift_128 : decode cX11_drift 128 = .ok (.iconst 3, 1) := by decide +kernel
theorem dX11_drift_129 : decode cX11_drift 129 = .ok (.if_icmp .ne 26, 3) := by decide +kernel
theorem dX11_drift_132 : decode cX11_drift 132 = .ok (.aload_n 0, 1) := by decide +kernel
theorem dX11_drift_133 : decode cX11_drift 133 = .ok (.getfield 19, 3) := by decide +kernel
theorem dX11_drift_136 : decode cX11_drift 136 = .ok (.iconst 2, 1) := by decide +kernel
theorem dX11_drift_137 : decode cX11_drift 137 = .ok (.iaload, 1) := by decide +kernel
theorem dX11_drift_138 : decode cX11_drift 138 = .ok (.ifCond .le 17, 3) := by decide +kernel
theorem dX11_drift_141 : decode cX11_drift 141 = .ok (.aload_n 0, 1) := by decide +kernel
theorem dX11_drift_142 : decode cX11_drift 142 = .ok (.aload_n 0, 1) := by decide +kernel
theorem dX11_drift_143 : decode cX11_drift 143 = .ok (.aload_n 0, 1) := by decide +kernel
theorem dX11_drift_144 : decode cX11_drift 144 = .ok (.getfield 19, 3) := by decide +kernel
theorem dX11_drift_147 : decode cX11_drift 147 = .ok (.iconst 2, 1) := by decide +kernel
theorem dX11_drift_148 : decode cX11_drift 148 = .ok (.iaload, 1) := by decide +kernel
theorem dX11_drift_149 : decode cX11_drift 149 = .ok (.invokevirtual 186, 3) := by decide +kernel
theorem dX11_drift_152 : decode cX11_drift 152 = .ok (.invokevirtual 171, 3) := by decide +kernel
theorem dX11_drift_155 : decode cX11_drift 155 = .ok (.aload_n 0, 1) := by decide +kernel
theorem dX11_drift_156 : decode cX11_drift 156 = .ok (.invokevirtual 177, 3) := by decide +kernel
theorem dX11_drift_159 : decode cX11_drift 159 = .ok (.iinc 2 1, 3) := by decide +kernel
theorem dX11_drift_162 : decode cX11_drift 162 = .ok (.goto (-120), 3) := by decide +kernel
theorem dX11_drift_165 : decode cX11_drift 165 = .ok (.aload_n 0, 1) := by decide +kernel
theorem dX11_drift_166 : decode cX11_drift 166 = .ok (.getfield 19, 3) := by decide +kernel
theorem dX11_drift_169 : decode cX11_drift 169 = .ok (.iconst 2, 1) := by decide +kernel
theorem dX11_drift_170 : decode cX11_drift 170 = .ok (.iaload, 1) := by decide +kernel
theorem dX11_drift_171 : decode cX11_drift 171 = .ok (.ireturn, 1) := by decide +kernel
theorem dX11_undo_0 : decode cX11_undo 0 = .ok (.iload_n 1, 1) := by decide +kernel
theorem dX11_undo_1 : decode cX11_undo 1 = .ok (.iconst 1, 1) := by decide +kernel
theorem dX11_undo_2 : decode cX11_undo 2 = .ok (.bipush 30, 2) := by decide +kernel
theorem dX11_undo_4 : decode cX11_undo 4 = .ok (.invokestatic 67, 3) := by decide +kernel
theorem dX11_undo_7 : decode cX11_undo 7 = .ok (.ifCond .ne 6, 3) := by decide +kernel
theorem dX11_undo_10 : decode cX11_undo 10 = .ok (.ldc 71, 2) := by decide +kernel
theorem dX11_undo_12 : decode cX11_undo 12 = .ok (.ireturn, 1) := by decide +kernel
theorem dX11_undo_13 : decode cX11_undo 13 = .ok (.aload_n 0, 1) := by decide +kernel
theorem dX11_undo_14 : decode cX11_undo 14 = .ok (.getfield 109, 3) := by decide +kernel
theorem dX11_undo_17 : decode cX11_undo 17 = .ok (.iload_n 1, 1) := by decide +kernel
theorem dX11_undo_18 : decode cX11_undo 18 = .ok (.if_icmp .ge 6, 3) := by decide +kernel
theorem dX11_undo_21 : decode cX11_undo 21 = .ok (.ldc 170, 2) := by decide +kernel
theorem dX11_undo_23 : decode cX11_undo 23 = .ok (.ireturn, 1) := by decide +kernel
theorem dX11_undo_24 : decode cX11_undo 24 = .ok (.aload_n 0, 1) := by decide +kernel
theorem dX11_undo_25 : decode cX11_undo 25 = .ok (.dup, 1) := by decide +kernel
theorem dX11_undo_26 : decode cX11_undo 26 = .ok (.getfield 109, 3) := by decide +kernel
theorem dX11_undo_29 : decode cX11_undo 29 = .ok (.iload_n 1, 1) := by decide +kernel
theorem dX11_undo_30 : decode cX11_undo 30 = .ok (.isub, 1) := by decide +kernel
theorem dX11_undo_31 : decode cX11_undo 31 = .ok (.putfield 109, 3) := by decide +kernel
theorem dX11_undo_34 : decode cX11_undo 34 = .ok (.iconst 0, 1) := by decide +kernel
theorem dX11_undo_35 : decode cX11_undo 35 = .ok (.istore_n 2, 1) := by decide +kernel
theorem dX11_undo_36 : decode cX11_undo 36 = .ok (.iload_n 2, 1) := by decide +kernel
theorem dX11_undo_37 : decode cX11_undo 37 = .ok (.bipush 25, 2) := by decide +kernel
theorem dX11_undo_39 : decode cX11_undo 39 = .ok (.if_icmp .ge 29, 3) := by decide +kernel
theorem dX11_undo_42 : decode cX11_undo 42 = .ok (.aload_n 0, 1) := by decide +kernel
theorem dX11_undo_43 : decode cX11_undo 43 = .ok (.getfield 19, 3) := by decide +kernel
theorem dX11_undo_46 : decode cX11_undo 46 = .ok (.iload_n 2, 1) := by decide +kernel
theorem dX11_undo_47 : decode cX11_undo 47 = .ok (.aload_n 0, 1) := by decide +kernel
theorem dX11_undo_48 : decode cX11_undo 48 = .ok (.getfield 22, 3) := by decide +kernel
theorem dX11_undo_51 : decode cX11_undo 51 = .ok (.bipush 25, 2) := by decide +kernel
theorem dX11_undo_53 : decode cX11_undo 53 = .ok (.aload_n 0, 1) := by decide +kernel
theorem dX11_undo_54 : decode cX11_undo 54 = .ok (.getfield 109, 3) := by decide +kernel
theorem dX11_undo_57 : decode cX11_undo 57 = .ok (.imul, 1) := by decide +kernel
theorem dX11_undo_58 : decode cX11_undo 58 = .ok (.iload_n 2, 1) := by decide +kernel
theorem dX11_undo_59 : decode cX11_undo 59 = .ok (.iadd, 1) := by decide +kernel
theorem dX11_undo_60 : decode cX11_undo 60 = .ok (.iaload, 1) := by decide +kernel
theorem dX11_undo_61 : decode cX11_undo 61 = .ok (.iastore, 1) := by decide +kernel
theorem dX11_undo_62 : decode cX11_undo 62 = .ok (.iinc 2 1, 3) := by decide +kernel
theorem dX11_undo_65 : decode cX11_undo 65 = .ok (.goto (-29), 3) := by decide +kernel
theorem dX11_undo_68 : decode cX11_undo 68 = .ok (.aload_n 0, 1) := by decide +kernel
theorem dX11_undo_69 : decode cX11_undo 69 = .ok (.getfield 19, 3) := by decide +kernel
theorem dX11_undo_72 : decode cX11_undo 72 = .ok (.iconst 0, 1) := by decide +kernel
theorem dX11_undo_73 : decode cX11_undo 73 = .ok (.iaload, 1) := by decide +kernel
theorem dX11_undo_74 : decode cX11_undo 74 = .ok (.ireturn, 1) := by decide +kernel
theorem dX11_farAt_0 : decode cX11_farAt 0 = .ok (.aload_n 0, 1) := by decide +kernel
theorem dX11_farAt_1 : decode cX11_farAt 1 = .ok (.getfield 48, 3) := by decide +kernel
theorem dX11_farAt_4 : decode cX11_farAt 4 = .ok (.iload_n 1, 1) := by decide +kernel
theorem dX11_farAt_5 : decode cX11_farAt 5 = .ok (.bipush 16, 2) := by decide +kernel
theorem dX11_farAt_7 : decode cX11_farAt 7 = .ok (.idiv, 1) := by decide +kernel
theorem dX11_farAt_8 : decode cX11_farAt 8 = .ok (.laload, 1) := by decide +kernel
theorem dX11_farAt_9 : decode cX11_farAt 9 = .ok (.iconst 4, 1) := by decide +kernel
theorem dX11_farAt_10 : decode cX11_farAt 10 = .ok (.iload_n 1, 1) := by decide +kernel
theorem dX11_farAt_11 : decode cX11_farAt 11 = .ok (.bipush 16, 2) := by decide +kernel
theorem dX11_farAt_13 : decode cX11_farAt 13 = .ok (.irem, 1) := by decide +kernel
theorem dX11_farAt_14 : decode cX11_farAt 14 = .ok (.imul, 1) := by decide +kernel
theorem dX11_farAt_15 : decode cX11_farAt 15 = .ok (.lshr, 1) := by decide +kernel
theorem dX11_farAt_16 : decode cX11_farAt 16 = .ok (.ldc2_w 189, 3) := by decide +kernel
theorem dX11_farAt_19 : decode cX11_farAt 19 = .ok (.land, 1) := by decide +kernel
theorem dX11_farAt_20 : decode cX11_farAt 20 = .ok (.l2i, 1) := by decide +kernel
theorem dX11_farAt_21 : decode cX11_farAt 21 = .ok (.ireturn, 1) := by decide +kernel
theorem dX11_isFar_0 : decode cX11_isFar 0 = .ok (.ldc2_w 189, 3) := by decide +kernel
theorem dX11_isFar_3 : decode cX11_isFar 3 = .ok (.iconst 4, 1) := by decide +kernel
theorem dX11_isFar_4 : decode cX11_isFar 4 = .ok (.iload_n 1, 1) := by decide +kernel
theorem dX11_isFar_5 : decode cX11_isFar 5 = .ok (.bipush 16, 2) := by decide +kernel
theorem dX11_isFar_7 : decode cX11_isFar 7 = .ok (.irem, 1) := by decide +kernel
theorem dX11_isFar_8 : decode cX11_isFar 8 = .ok (.imul, 1) := by decide +kernel
theorem dX11_isFar_9 : decode cX11_isFar 9 = .ok (.lshl, 1) := by decide +kernel
theorem dX11_isFar_10 : decode cX11_isFar 10 = .ok (.lstore_n 3, 1) := by decide +kernel
theorem dX11_isFar_11 : decode cX11_isFar 11 = .ok (.aload_n 0, 1) := by decide +kernel
theorem dX11_isFar_12 : decode cX11_isFar 12 = .ok (.getfield 48, 3) := by decide +kernel
theorem dX11_isFar_15 : decode cX11_isFar 15 = .ok (.iload_n 1, 1) := by decide +kernel
theorem dX11_isFar_16 : decode cX11_isFar 16 = .ok (.bipush 16, 2) := by decide +kernel
theorem dX11_isFar_18 : decode cX11_isFar 18 = .ok (.idiv, 1) := by decide +kernel
theorem dX11_isFar_19 : decode cX11_isFar 19 = .ok (.aload_n 0, 1) := by decide +kernel
theorem dX11_isFar_20 : decode cX11_isFar 20 = .ok (.getfield 48, 3) := by decide +kernel
theorem dX11_isFar_23 : decode cX11_isFar 23 = .ok (.iload_n 1, 1) := by decide +kernel
theorem dX11_isFar_24 : decode cX11_isFar 24 = .ok (.bipush 16, 2) := by decide +kernel
theorem dX11_isFar_26 : decode cX11_isFar 26 = .ok (.idiv, 1) := by decide +kernel
theorem dX11_isFar_27 : decode cX11_isFar 27 = .ok (.laload, 1) := by decide +kernel
theorem dX11_isFar_28 : decode cX11_isFar 28 = .ok (.lload_n 3, 1) := by decide +kernel
theorem dX11_isFar_29 : decode cX11_isFar 29 = .ok (.ldc2_w 191, 3) := by decide +kernel
theorem dX11_isFar_32 : decode cX11_isFar 32 = .ok (.lxor, 1) := by decide +kernel
theorem dX11_isFar_33 : decode cX11_isFar 33 = .ok (.land, 1) := by decide +kernel
theorem dX11_isFar_34 : decode cX11_isFar 34 = .ok (.iload_n 2, 1) := by decide +kernel
theorem dX11_isFar_35 : decode cX11_isFar 35 = .ok (.i2l, 1) := by decide +kernel
theorem dX11_isFar_36 : decode cX11_isFar 36 = .ok (.iconst 4, 1) := by decide +kernel
theorem dX11_isFar_37 : decode cX11_isFar 37 = .ok (.iload_n 1, 1) := by decide +kernel
theorem dX11_isFar_38 : decode cX11_isFar 38 = .ok (.bipush 16, 2) := by decide +kernel
theorem dX11_isFar_40 : decode cX11_isFar 40 = .ok (.irem, 1) := by decide +kernel
theorem dX11_isFar_41 : decode cX11_isFar 41 = .ok (.imul, 1) := by decide +kernel
theorem dX11_isFar_42 : decode cX11_isFar 42 = .ok (.lshl, 1) := by decide +kernel
theorem dX11_isFar_43 : decode cX11_isFar 43 = .ok (.lor, 1) := by decide +kernel
theorem dX11_isFar_44 : decode cX11_isFar 44 = .ok (.lastore, 1) := by decide +kernel
theorem dX11_isFar_45 : decode cX11_isFar 45 = .ok (.return_, 1) := by decide +kernel
theorem dX11_numberOf_0 : decode cX11_numberOf 0 = .ok (.iconst 0, 1) := by decide +kernel
theorem dX11_numberOf_1 : decode cX11_numberOf 1 = .ok (.istore_n 2, 1) := by decide +kernel
theorem dX11_numberOf_2 : decode cX11_numberOf 2 = .ok (.iconst 0, 1) := by decide +kernel
theorem dX11_numberOf_3 : decode cX11_numberOf 3 = .ok (.istore_n 3, 1) := by decide +kernel
theorem dX11_numberOf_4 : decode cX11_numberOf 4 = .ok (.iload_n 3, 1) := by decide +kernel
theorem dX11_numberOf_5 : decode cX11_numberOf 5 = .ok (.iload_n 1, 1) := by decide +kernel
theorem dX11_numberOf_6 : decode cX11_numberOf 6 = .ok (.if_icmp .ge 58, 3) := by decide +kernel
theorem dX11_numberOf_9 : decode cX11_numberOf 9 = .ok (.iconst 0, 1) := by decide +kernel
theorem dX11_numberOf_10 : decode cX11_numberOf 10 = .ok (.istore 4, 2) := by decide +kernel
theorem dX11_numberOf_12 : decode cX11_numberOf 12 = .ok (.iload_n 3, 1) := by decide +kernel
theorem dX11_numberOf_13 : decode cX11_numberOf 13 = .ok (.iconst 1, 1) := by decide +kernel
theorem dX11_numberOf_14 : decode cX11_numberOf 14 = .ok (.iadd, 1) := by decide +kernel
theorem dX11_numberOf_15 : decode cX11_numberOf 15 = .ok (.istore 5, 2) := by decide +kernel
theorem dX11_numberOf_17 : decode cX11_numberOf 17 = .ok (.iload 5, 2) := by decide +kernel
theorem dX11_numberOf_19 : decode cX11_numberOf 19 = .ok (.iload_n 1, 1) := by decide +kernel
theorem dX11_numberOf_20 : decode cX11_numberOf 20 = .ok (.if_icmp .ge 29, 3) := by decide +kernel
theorem dX11_numberOf_23 : decode cX11_numberOf 23 = .ok (.iload 4, 2) := by decide +kernel
theorem dX11_numberOf_25 : decode cX11_numberOf 25 = .ok (.aload_n 0, 1) := by decide +kernel
theorem dX11_numberOf_26 : decode cX11_numberOf 26 = .ok (.iload 5, 2) := by decide +kernel
theorem dX11_numberOf_28 : decode cX11_numberOf 28 = .ok (.iaload, 1) := by decide +kernel
theorem dX11_numberOf_29 : decode cX11_numberOf 29 = .ok (.aload_n 0, 1) := by decide +kernel
theorem dX11_numberOf_30 : decode cX11_numberOf 30 = .ok (.iload_n 3, 1) := by decide +kernel
theorem dX11_numberOf_31 : decode cX11_numberOf 31 = .ok (.iaload, 1) := by decide +kernel
theorem dX11_numberOf_32 : decode cX11_numberOf 32 = .ok (.if_icmp .ge 7, 3) := by decide +kernel
theorem dX11_numberOf_35 : decode cX11_numberOf 35 = .ok (.iconst 1, 1) := by decide +kernel
theorem dX11_numberOf_36 : decode cX11_numberOf 36 = .ok (.goto 4, 3) := by decide +kernel
theorem dX11_numberOf_39 : decode cX11_numberOf 39 = .ok (.iconst 0, 1) := by decide +kernel
theorem dX11_numberOf_40 : decode cX11_numberOf 40 = .ok (.iadd, 1) := by decide +kernel
theorem dX11_numberOf_41 : decode cX11_numberOf 41 = .ok (.istore 4, 2) := by decide +kernel
theorem dX11_numberOf_43 : decode cX11_numberOf 43 = .ok (.iinc 5 1, 3) := by decide +kernel
theorem dX11_numberOf_46 : decode cX11_numberOf 46 = .ok (.goto (-29), 3) := by decide +kernel
theorem dX11_numberOf_49 : decode cX11_numberOf 49 = .ok (.iload_n 2, 1) := by decide +kernel
theorem dX11_numberOf_50 : decode cX11_numberOf 50 = .ok (.iload_n 1, 1) := by decide +kernel
theorem dX11_numberOf_51 : decode cX11_numberOf 51 = .ok (.iload_n 3, 1) := by decide +kernel
theorem dX11_numberOf_52 : decode cX11_numberOf 52 = .ok (.isub, 1) := by decide +kernel
theorem dX11_numberOf_53 : decode cX11_numberOf 53 = .ok (.imul, 1) := by decide +kernel
theorem dX11_numberOf_54 : decode cX11_numberOf 54 = .ok (.iload 4, 2) := by decide +kernel
theorem dX11_numberOf_56 : decode cX11_numberOf 56 = .ok (.iadd, 1) := by decide +kernel
theorem dX11_numberOf_57 : decode cX11_numberOf 57 = .ok (.istore_n 2, 1) := by decide +kernel
theorem dX11_numberOf_58 : decode cX11_numberOf 58 = .ok (.iinc 3 1, 3) := by decide +kernel
theorem dX11_numberOf_61 : decode cX11_numberOf 61 = .ok (.goto (-57), 3) := by decide +kernel
theorem dX11_numberOf_64 : decode cX11_numberOf 64 = .ok (.iload_n 2, 1) := by decide +kernel
theorem dX11_numberOf_65 : decode cX11_numberOf 65 = .ok (.ireturn, 1) := by decide +kernel
theorem dX11_orderOf_0 : decode cX11_orderOf 0 = .ok (.iload_n 1, 1) := by decide +kernel
theorem dX11_orderOf_1 : decode cX11_orderOf 1 = .ok (.istore 4, 2) := by decide +kernel
theorem dX11_orderOf_3 : decode cX11_orderOf 3 = .ok (.iload_n 2, 1) := by decide +kernel
theorem dX11_orderOf_4 : decode cX11_orderOf 4 = .ok (.iconst 1, 1) := by decide +kernel
theorem dX11_orderOf_5 : decode cX11_orderOf 5 = .ok (.isub, 1) := by decide +kernel
theorem dX11_orderOf_6 : decode cX11_orderOf 6 = .ok (.istore 5, 2) := by decide +kernel
theorem dX11_orderOf_8 : decode cX11_orderOf 8 = .ok (.iload 5, 2) := by decide +kernel
theorem dX11_orderOf_10 : decode cX11_orderOf 10 = .ok (.ifCond .lt 32, 3) := by decide +kernel
theorem dX11_orderOf_13 : decode cX11_orderOf 13 = .ok (.aload_n 0, 1) := by decide +kernel
theorem dX11_orderOf_14 : decode cX11_orderOf 14 = .ok (.getfield 55, 3) := by decide +kernel
theorem dX11_orderOf_17 : decode cX11_orderOf 17 = .ok (.iload 5, 2) := by decide +kernel
theorem dX11_orderOf_19 : decode cX11_orderOf 19 = .ok (.iload 4, 2) := by decide +kernel
theorem dX11_orderOf_21 : decode cX11_orderOf 21 = .ok (.iload_n 2, 1) := by decide +kernel
theorem dX11_orderOf_22 : decode cX11_orderOf 22 = .ok (.iload 5, 2) := by decide +kernel
theorem dX11_orderOf_24 : decode cX11_orderOf 24 = .ok (.isub, 1) := by decide +kernel
theorem dX11_orderOf_25 : decode cX11_orderOf 25 = .ok (.irem, 1) := by decide +kernel
theorem dX11_orderOf_26 : decode cX11_orderOf 26 = .ok (.iastore, 1) := by decide +kernel
theorem dX11_orderOf_27 : decode cX11_orderOf 27 = .ok (.iload 4, 2) := by decide +kernel
theorem dX11_orderOf_29 : decode cX11_orderOf 29 = .ok (.iload_n 2, 1) := by decide +kernel
theorem dX11_orderOf_30 : decode cX11_orderOf 30 = .ok (.iload 5, 2) := by decide +kernel
theorem dX11_orderOf_32 : decode cX11_orderOf 32 = .ok (.isub, 1) := by decide +kernel
theorem dX11_orderOf_33 : decode cX11_orderOf 33 = .ok (.idiv, 1) := by decide +kernel
theorem dX11_orderOf_34 : decode cX11_orderOf 34 = .ok (.istore 4, 2) := by decide +kernel
theorem dX11_orderOf_36 : decode cX11_orderOf 36 = .ok (.iinc 5 (-1), 3) := by decide +kernel
theorem dX11_orderOf_39 : decode cX11_orderOf 39 = .ok (.goto (-31), 3) := by decide +kernel
theorem dX11_orderOf_42 : decode cX11_orderOf 42 = .ok (.iconst 0, 1) := by decide +kernel
theorem dX11_orderOf_43 : decode cX11_orderOf 43 = .ok (.istore 5, 2) := by decide +kernel
theorem dX11_orderOf_45 : decode cX11_orderOf 45 = .ok (.iconst 0, 1) := by decide +kernel
theorem dX11_orderOf_46 : decode cX11_orderOf 46 = .ok (.istore 6, 2) := by decide +kernel
theorem dX11_orderOf_48 : decode cX11_orderOf 48 = .ok (.iload 6, 2) := by decide +kernel
theorem dX11_orderOf_50 : decode cX11_orderOf 50 = .ok (.iload_n 2, 1) := by decide +kernel
theorem dX11_orderOf_51 : decode cX11_orderOf 51 = .ok (.if_icmp .ge 66, 3) := by decide +kernel
theorem dX11_orderOf_54 : decode cX11_orderOf 54 = .ok (.iconst (-1), 1) := by decide +kernel
theorem dX11_orderOf_55 : decode cX11_orderOf 55 = .ok (.istore 7, 2) := by decide +kernel
theorem dX11_orderOf_57 : decode cX11_orderOf 57 = .ok (.aload_n 0, 1) := by decide +kernel
theorem dX11_orderOf_58 : decode cX11_orderOf 58 = .ok (.getfield 55, 3) := by decide +kernel
theorem dX11_orderOf_61 : decode cX11_orderOf 61 = .ok (.iload 6, 2) := by decide +kernel
theorem dX11_orderOf_63 : decode cX11_orderOf 63 = .ok (.iaload, 1) := by decide +kernel
theorem dX11_orderOf_64 : decode cX11_orderOf 64 = .ok (.istore 8, 2) := by decide +kernel
theorem dX11_orderOf_66 : decode cX11_orderOf 66 = .ok (.iload 8, 2) := by decide +kernel
theorem dX11_orderOf_68 : decode cX11_orderOf 68 = .ok (.ifCond .lt 28, 3) := by decide +kernel
theorem dX11_orderOf_71 : decode cX11_orderOf 71 = .ok (.iinc 7 1, 3) := by decide +kernel
theorem dX11_orderOf_74 : decode cX11_orderOf 74 = .ok (.iload 5, 2) := by decide +kernel
theorem dX11_orderOf_76 : decode cX11_orderOf 76 = .ok (.iload 7, 2) := by decide +kernel
theorem dX11_orderOf_78 : decode cX11_orderOf 78 = .ok (.invokestatic 118, 3) := by decide +kernel
theorem dX11_orderOf_81 : decode cX11_orderOf 81 = .ok (.ifCond .eq 9, 3) := by decide +kernel
theorem dX11_orderOf_84 : decode cX11_orderOf 84 = .ok (.iinc 7 1, 3) := by decide +kernel
theorem dX11_orderOf_87 : decode cX11_orderOf 87 = .ok (.goto (-13), 3) := by decide +kernel
theorem dX11_orderOf_90 : decode cX11_orderOf 90 = .ok (.iinc 8 (-1), 3) := by decide +kernel
theorem dX11_orderOf_93 : decode cX11_orderOf 93 = .ok (.goto (-27), 3) := by decide +kernel
theorem dX11_orderOf_96 : decode cX11_orderOf 96 = .ok (.aload_n 3, 1) := by decide +kernel
theorem dX11_orderOf_97 : decode cX11_orderOf 97 = .ok (.iload 6, 2) := by decide +kernel
theorem dX11_orderOf_99 : decode cX11_orderOf 99 = .ok (.iload 7, 2) := by decide +kernel
theorem dX11_orderOf_101 : decode cX11_orderOf 101 = .ok (.iastore, 1) := by decide +kernel
theorem dX11_orderOf_102 : decode cX11_orderOf 102 = .ok (.iload 5, 2) := by decide +kernel
theorem dX11_orderOf_104 : decode cX11_orderOf 104 = .ok (.iconst 1, 1) := by decide +kernel
theorem dX11_orderOf_105 : decode cX11_orderOf 105 = .ok (.iload 7, 2) := by decide +kernel
theorem dX11_orderOf_107 : decode cX11_orderOf 107 = .ok (.ishl, 1) := by decide +kernel
theorem dX11_orderOf_108 : decode cX11_orderOf 108 = .ok (.ior, 1) := by decide +kernel
theorem dX11_orderOf_109 : decode cX11_orderOf 109 = .ok (.istore 5, 2) := by decide +kernel
theorem dX11_orderOf_111 : decode cX11_orderOf 111 = .ok (.iinc 6 1, 3) := by decide +kernel
theorem dX11_orderOf_114 : decode cX11_orderOf 114 = .ok (.goto (-66), 3) := by decide +kernel
theorem dX11_orderOf_117 : decode cX11_orderOf 117 = .ok (.return_, 1) := by decide +kernel
theorem dX11_turns_0 : decode cX11_turns 0 = .ok (.iconst 0, 1) := by decide +kernel
theorem dX11_turns_1 : decode cX11_turns 1 = .ok (.istore 4, 2) := by decide +kernel
theorem dX11_turns_3 : decode cX11_turns 3 = .ok (.iload 4, 2) := by decide +kernel
theorem dX11_turns_5 : decode cX11_turns 5 = .ok (.iload_n 2, 1) := by decide +kernel
theorem dX11_turns_6 : decode cX11_turns 6 = .ok (.if_icmp .ge 34, 3) := by decide +kernel
theorem dX11_turns_9 : decode cX11_turns 9 = .ok (.aload_n 1, 1) := by decide +kernel
theorem dX11_turns_10 : decode cX11_turns 10 = .ok (.iload 4, 2) := by decide +kernel
theorem dX11_turns_12 : decode cX11_turns 12 = .ok (.iload 4, 2) := by decide +kernel
theorem dX11_turns_14 : decode cX11_turns 14 = .ok (.iload_n 3, 1) := by decide +kernel
theorem dX11_turns_15 : decode cX11_turns 15 = .ok (.if_icmp .ge 14, 3) := by decide +kernel
theorem dX11_turns_18 : decode cX11_turns 18 = .ok (.aload_n 0, 1) := by decide +kernel
theorem dX11_turns_19 : decode cX11_turns 19 = .ok (.iload_n 3, 1) := by decide +kernel
theorem dX11_turns_20 : decode cX11_turns 20 = .ok (.iconst 1, 1) := by decide +kernel
theorem dX11_turns_21 : decode cX11_turns 21 = .ok (.isub, 1) := by decide +kernel
theorem dX11_turns_22 : decode cX11_turns 22 = .ok (.iload 4, 2) := by decide +kernel
theorem dX11_turns_24 : decode cX11_turns 24 = .ok (.isub, 1) := by decide +kernel
theorem dX11_turns_25 : decode cX11_turns 25 = .ok (.iaload, 1) := by decide +kernel
theorem dX11_turns_26 : decode cX11_turns 26 = .ok (.goto 7, 3) := by decide +kernel
theorem dX11_turns_29 : decode cX11_turns 29 = .ok (.aload_n 0, 1) := by decide +kernel
theorem dX11_turns_30 : decode cX11_turns 30 = .ok (.iload 4, 2) := by decide +kernel
theorem dX11_turns_32 : decode cX11_turns 32 = .ok (.iaload, 1) := by decide +kernel
theorem dX11_turns_33 : decode cX11_turns 33 = .ok (.iastore, 1) := by decide +kernel
theorem dX11_turns_34 : decode cX11_turns 34 = .ok (.iinc 4 1, 3) := by decide +kernel
theorem dX11_turns_37 : decode cX11_turns 37 = .ok (.goto (-34), 3) := by decide +kernel
theorem dX11_turns_40 : decode cX11_turns 40 = .ok (.return_, 1) := by decide +kernel
theorem dX11_measures_0 : decode cX11_measures 0 = .ok (.aload_n 0, 1) := by decide +kernel
theorem dX11_measures_1 : decode cX11_measures 1 = .ok (.getfield 52, 3) := by decide +kernel
theorem dX11_measures_4 : decode cX11_measures 4 = .ok (.iload_n 1, 1) := by decide +kernel
theorem dX11_measures_5 : decode cX11_measures 5 = .ok (.if_icmp .ne 4, 3) := by decide +kernel
theorem dX11_measures_8 : decode cX11_measures 8 = .ok (.return_, 1) := by decide +kernel
theorem dX11_measures_9 : decode cX11_measures 9 = .ok (.iconst 1, 1) := by decide +kernel
theorem dX11_measures_10 : decode cX11_measures 10 = .ok (.istore_n 2, 1) := by decide +kernel
theorem dX11_measures_11 : decode cX11_measures 11 = .ok (.iconst 2, 1) := by decide +kernel
theorem dX11_measures_12 : decode cX11_measures 12 = .ok (.istore_n 3, 1) := by decide +kernel
theorem dX11_measures_13 : decode cX11_measures 13 = .ok (.iload_n 3, 1) := by decide +kernel
theorem dX11_measures_14 : decode cX11_measures 14 = .ok (.iload_n 1, 1) := by decide +kernel
theorem dX11_measures_15 : decode cX11_measures 15 = .ok (.if_icmp .gt 13, 3) := by decide +kernel
theorem dX11_measures_18 : decode cX11_measures 18 = .ok (.iload_n 2, 1) := by decide +kernel
theorem dX11_measures_19 : decode cX11_measures 19 = .ok (.iload_n 3, 1) := by decide +kernel
theorem dX11_measures_20 : decode cX11_measures 20 = .ok (.imul, 1) := by decide +kernel
theorem dX11_measures_21 : decode cX11_measures 21 = .ok (.istore_n 2, 1) := by decide +kernel
theorem dX11_measures_22 : decode cX11_measures 22 = .ok (.iinc 3 1, 3) := by decide +kernel
theorem dX11_measures_25 : decode cX11_measures 25 = .ok (.goto (-12), 3) := by decide +kernel
theorem dX11_measures_28 : decode cX11_measures 28 = .ok (.iconst 0, 1) := by decide +kernel
theorem dX11_measures_29 : decode cX11_measures 29 = .ok (.istore_n 3, 1) := by decide +kernel
theorem dX11_measures_30 : decode cX11_measures 30 = .ok (.iload_n 3, 1) := by decide +kernel
theorem dX11_measures_31 : decode cX11_measures 31 = .ok (.aload_n 0, 1) := by decide +kernel
theorem dX11_measures_32 : decode cX11_measures 32 = .ok (.getfield 48, 3) := by decide +kernel
theorem dX11_measures_35 : decode cX11_measures 35 = .ok (.arraylength, 1) := by decide +kernel
theorem dX11_measures_36 : decode cX11_measures 36 = .ok (.if_icmp .ge 18, 3) := by decide +kernel
theorem dX11_measures_39 : decode cX11_measures 39 = .ok (.aload_n 0, 1) := by decide +kernel
theorem dX11_measures_40 : decode cX11_measures 40 = .ok (.getfield 48, 3) := by decide +kernel
theorem dX11_measures_43 : decode cX11_measures 43 = .ok (.iload_n 3, 1) := by decide +kernel
theorem dX11_measures_44 : decode cX11_measures 44 = .ok (.ldc2_w 191, 3) := by decide +kernel
theorem dX11_measures_47 : decode cX11_measures 47 = .ok (.lastore, 1) := by decide +kernel
theorem dX11_measures_48 : decode cX11_measures 48 = .ok (.iinc 3 1, 3) := by decide +kernel
theorem dX11_measures_51 : decode cX11_measures 51 = .ok (.goto (-21), 3) := by decide +kernel
theorem dX11_measures_54 : decode cX11_measures 54 = .ok (.aload_n 0, 1) := by decide +kernel
theorem dX11_measures_55 : decode cX11_measures 55 = .ok (.iconst 0, 1) := by decide +kernel
theorem dX11_measures_56 : decode cX11_measures 56 = .ok (.iconst 0, 1) := by decide +kernel
theorem dX11_measures_57 : decode cX11_measures 57 = .ok (.invokevirtual 193, 3) := by decide +kernel
theorem dX11_measures_60 : decode cX11_measures 60 = .ok (.iconst 1, 1) := by decide +kernel
theorem dX11_measures_61 : decode cX11_measures 61 = .ok (.istore_n 3, 1) := by decide +kernel
theorem dX11_measures_62 : decode cX11_measures 62 = .ok (.iconst 0, 1) := by decide +kernel
theorem dX11_measures_63 : decode cX11_measures 63 = .ok (.istore 4, 2) := by decide +kernel
theorem dX11_measures_65 : decode cX11_measures 65 = .ok (.iload_n 3, 1) := by decide +kernel
theorem dX11_measures_66 : decode cX11_measures 66 = .ok (.ifCond .eq 110, 3) := by decide +kernel
theorem dX11_measures_69 : decode cX11_measures 69 = .ok (.iconst 0, 1) := by decide +kernel
theorem dX11_measures_70 : decode cX11_measures 70 = .ok (.istore_n 3, 1) := by decide +kernel
theorem dX11_measures_71 : decode cX11_measures 71 = .ok (.iconst 0, 1) := by decide +kernel
theorem dX11_measures_72 : decode cX11_measures 72 = .ok (.istore 5, 2) := by decide +kernel
theorem dX11_measures_74 : decode cX11_measures 74 = .ok (.iload 5, 2) := by decide +kernel
theorem dX11_measures_76 : decode cX11_measures 76 = .ok (.iload_n 2, 1) := by decide +kernel
theorem dX11_measures_77 : decode cX11_measures 77 = .ok (.if_icmp .ge 93, 3) := by decide +kernel
theorem dX11_measures_80 : decode cX11_measures 80 = .ok (.aload_n 0, 1) := by decide +kernel
theorem dX11_measures_81 : decode cX11_measures 81 = .ok (.iload 5, 2) := by decide +kernel
theorem dX11_measures_83 : decode cX11_measures 83 = .ok (.invokevirtual 197, 3) := by decide +kernel
theorem dX11_measures_86 : decode cX11_measures 86 = .ok (.iload 4, 2) := by decide +kernel
theorem dX11_measures_88 : decode cX11_measures 88 = .ok (.if_icmp .ne 76, 3) := by decide +kernel
theorem dX11_measures_91 : decode cX11_measures 91 = .ok (.aload_n 0, 1) := by decide +kernel
theorem dX11_measures_92 : decode cX11_measures 92 = .ok (.iload 5, 2) := by decide +kernel
theorem dX11_measures_94 : decode cX11_measures 94 = .ok (.iload_n 1, 1) := by decide +kernel
theorem dX11_measures_95 : decode cX11_measures 95 = .ok (.aload_n 0, 1) := by decide +kernel
theorem dX11_measures_96 : decode cX11_measures 96 = .ok (.getfield 58, 3) := by decide +kernel
theorem dX11_measures_99 : decode cX11_measures 99 = .ok (.invokevirtual 200, 3) := by decide +kernel
theorem dX11_measures_102 : decode cX11_measures 102 = .ok (.iconst 2, 1) := by decide +kernel
theorem dX11_measures_103 : decode cX11_measures 103 = .ok (.istore 6, 2) := by decide +kernel
theorem dX11_measures_105 : decode cX11_measures 105 = .ok (.iload 6, 2) := by decide +kernel
theorem dX11_measures_107 : decode cX11_measures 107 = .ok (.iload_n 1, 1) := by decide +kernel
theorem dX11_measures_108 : decode cX11_measures 108 = .ok (.if_icmp .gt 56, 3) := by decide +kernel
theorem dX11_measures_111 : decode cX11_measures 111 = .ok (.aload_n 0, 1) := by decide +kernel
theorem dX11_measures_112 : decode cX11_measures 112 = .ok (.getfield 58, 3) := by decide +kernel
theorem dX11_measures_115 : decode cX11_measures 115 = .ok (.aload_n 0, 1) := by decide +kernel
theorem dX11_measures_116 : decode cX11_measures 116 = .ok (.getfield 61, 3) := by decide +kernel
theorem dX11_measures_119 : decode cX11_measures 119 = .ok (.iload_n 1, 1) := by decide +kernel
theorem dX11_measures_120 : decode cX11_measures 120 = .ok (.iload 6, 2) := by decide +kernel
theorem dX11_measures_122 : decode cX11_measures 122 = .ok (.invokestatic 204, 3) := by decide +kernel
theorem dX11_measures_125 : decode cX11_measures 125 = .ok (.aload_n 0, 1) := by decide +kernel
theorem dX11_measures_126 : decode cX11_measures 126 = .ok (.getfield 61, 3) := by decide +kernel
theorem dX11_measures_129 : decode cX11_measures 129 = .ok (.iload_n 1, 1) := by decide +kernel
theorem dX11_measures_130 : decode cX11_measures 130 = .ok (.invokestatic 208, 3) := by decide +kernel
theorem dX11_measures_133 : decode cX11_measures 133 = .ok (.istore 7, 2) := by decide +kernel
theorem dX11_measures_135 : decode cX11_measures 135 = .ok (.aload_n 0, 1) := by decide +kernel
theorem dX11_measures_136 : decode cX11_measures 136 = .ok (.iload 7, 2) := by decide +kernel
theorem dX11_measures_138 : decode cX11_measures 138 = .ok (.invokevirtual 197, 3) := by decide +kernel
theorem dX11_measures_141 : decode cX11_measures 141 = .ok (.bipush 15, 2) := by decide +kernel
theorem dX11_measures_143 : decode cX11_measures 143 = .ok (.if_icmp .ne 15, 3) := by decide +kernel
theorem dX11_measures_146 : decode cX11_measures 146 = .ok (.aload_n 0, 1) := by decide +kernel
theorem dX11_measures_147 : decode cX11_measures 147 = .ok (.iload 7, 2) := by decide +kernel
theorem dX11_measures_149 : decode cX11_measures 149 = .ok (.iload 4, 2) := by decide +kernel
theorem dX11_measures_151 : decode cX11_measures 151 = .ok (.iconst 1, 1) := by decide +kernel
theorem dX11_measures_152 : decode cX11_measures 152 = .ok (.iadd, 1) := by decide +kernel
theorem dX11_measures_153 : decode cX11_measures 153 = .ok (.invokevirtual 193, 3) := by decide +kernel
theorem dX11_measures_156 : decode cX11_measures 156 = .ok (.iconst 1, 1) := by decide +kernel
theorem dX11_measures_157 : decode cX11_measures 157 = .ok (.istore_n 3, 1) := by decide +kernel
theorem dX11_measures_158 : decode cX11_measures 158 = .ok (.iinc 6 1, 3) := by decide +kernel
theorem dX11_measures_161 : decode cX11_measures 161 = .ok (.goto (-56), 3) := by decide +kernel
theorem dX11_measures_164 : decode cX11_measures 164 = .ok (.iinc 5 1, 3) := by decide +kernel
theorem dX11_measures_167 : decode cX11_measures 167 = .ok (.goto (-93), 3) := by decide +kernel
theorem dX11_measures_170 : decode cX11_measures 170 = .ok (.iinc 4 1, 3) := by decide +kernel
theorem dX11_measures_173 : decode cX11_measures 173 = .ok (.goto (-108), 3) := by decide +kernel
theorem dX11_measures_176 : decode cX11_measures 176 = .ok (.aload_n 0, 1) := by decide +kernel
theorem dX11_measures_177 : decode cX11_measures 177 = .ok (.iload_n 1, 1) := by decide +kernel
theorem dX11_measures_178 : decode cX11_measures 178 = .ok (.putfield 52, 3) := by decide +kernel
theorem dX11_measures_181 : decode cX11_measures 181 = .ok (.return_, 1) := by decide +kernel
theorem dX11_turnings_0 : decode cX11_turnings 0 = .ok (.iload_n 1, 1) := by decide +kernel
theorem dX11_turnings_1 : decode cX11_turnings 1 = .ok (.iconst 0, 1) := by decide +kernel
theorem dX11_turnings_2 : decode cX11_turnings 2 = .ok (.iconst 1, 1) := by decide +kernel
theorem dX11_turnings_3 : decode cX11_turnings 3 = .ok (.invokestatic 67, 3) := by decide +kernel
theorem dX11_turnings_6 : decode cX11_turnings 6 = .ok (.ifCond .ne 6, 3) := by decide +kernel
theorem dX11_turnings_9 : decode cX11_turnings 9 = .ok (.ldc 71, 2) := by decide +kernel
theorem dX11_turnings_11 : decode cX11_turnings 11 = .ok (.ireturn, 1) := by decide +kernel
theorem dX11_turnings_12 : decode cX11_turnings 12 = .ok (.aload_n 0, 1) := by decide +kernel
theorem dX11_turnings_13 : decode cX11_turnings 13 = .ok (.getfield 19, 3) := by decide +kernel
theorem dX11_turnings_16 : decode cX11_turnings 16 = .ok (.iconst 2, 1) := by decide +kernel
theorem dX11_turnings_17 : decode cX11_turnings 17 = .ok (.iaload, 1) := by decide +kernel
theorem dX11_turnings_18 : decode cX11_turnings 18 = .ok (.istore_n 2, 1) := by decide +kernel
theorem dX11_turnings_19 : decode cX11_turnings 19 = .ok (.aload_n 0, 1) := by decide +kernel
theorem dX11_turnings_20 : decode cX11_turnings 20 = .ok (.iload_n 2, 1) := by decide +kernel
theorem dX11_turnings_21 : decode cX11_turnings 21 = .ok (.invokevirtual 212, 3) := by decide +kernel
theorem dX11_turnings_24 : decode cX11_turnings 24 = .ok (.iconst 0, 1) := by decide +kernel
theorem dX11_turnings_25 : decode cX11_turnings 25 = .ok (.istore_n 3, 1) := by decide +kernel
theorem dX11_turnings_26 : decode cX11_turnings 26 = .ok (.iload_n 3, 1) := by decide +kernel
theorem dX11_turnings_27 : decode cX11_turnings 27 = .ok (.iload_n 2, 1) := by decide +kernel
theorem dX11_turnings_28 : decode cX11_turnings 28 = .ok (.if_icmp .ge 23, 3) := by decide +kernel
theorem dX11_turnings_31 : decode cX11_turnings 31 = .ok (.aload_n 0, 1) := by decide +kernel
theorem dX11_turnings_32 : decode cX11_turnings 32 = .ok (.getfield 58, 3) := by decide +kernel
theorem dX11_turnings_35 : decode cX11_turnings 35 = .ok (.iload_n 3, 1) := by decide +kernel
theorem dX11_turnings_36 : decode cX11_turnings 36 = .ok (.aload_n 0, 1) := by decide +kernel
theorem dX11_turnings_37 : decode cX11_turnings 37 = .ok (.getfield 19, 3) := by decide +kernel
theorem dX11_turnings_40 : decode cX11_turnings 40 = .ok (.iconst 4, 1) := by decide +kernel
theorem dX11_turnings_41 : decode cX11_turnings 41 = .ok (.iload_n 3, 1) := by decide +kernel
theorem dX11_turnings_42 : decode cX11_turnings 42 = .ok (.iadd, 1) := by decide +kernel
theorem dX11_turnings_43 : decode cX11_turnings 43 = .ok (.iaload, 1) := by decide +kernel
theorem dX11_turnings_44 : decode cX11_turnings 44 = .ok (.iastore, 1) := by decide +kernel
theorem dX11_turnings_45 : decode cX11_turnings 45 = .ok (.iinc 3 1, 3) := by decide +kernel
theorem dX11_turnings_48 : decode cX11_turnings 48 = .ok (.goto (-22), 3) := by decide +kernel
theorem dX11_turnings_51 : decode cX11_turnings 51 = .ok (.aload_n 0, 1) := by decide +kernel
theorem dX11_turnings_52 : decode cX11_turnings 52 = .ok (.aload_n 0, 1) := by decide +kernel
theorem dX11_turnings_53 : decode cX11_turnings 53 = .ok (.getfield 58, 3) := by decide +kernel
theorem dX11_turnings_56 : decode cX11_turnings 56 = .ok (.iload_n 2, 1) := by decide +kernel
theorem dX11_turnings_57 : decode cX11_turnings 57 = .ok (.invokestatic 208, 3) := by decide +kernel
theorem dX11_turnings_60 : decode cX11_turnings 60 = .ok (.invokevirtual 197, 3) := by decide +kernel
theorem dX11_turnings_63 : decode cX11_turnings 63 = .ok (.istore_n 3, 1) := by decide +kernel
theorem dX11_turnings_64 : decode cX11_turnings 64 = .ok (.iload_n 1, 1) := by decide +kernel
theorem dX11_turnings_65 : decode cX11_turnings 65 = .ok (.ifCond .ne 5, 3) := by decide +kernel
theorem dX11_turnings_68 : decode cX11_turnings 68 = .ok (.iload_n 3, 1) := by decide +kernel
theorem dX11_turnings_69 : decode cX11_turnings 69 = .ok (.ireturn, 1) := by decide +kernel
theorem dX11_turnings_70 : decode cX11_turnings 70 = .ok (.iconst (-1), 1) := by decide +kernel
theorem dX11_turnings_71 : decode cX11_turnings 71 = .ok (.istore 4, 2) := by decide +kernel
theorem dX11_turnings_73 : decode cX11_turnings 73 = .ok (.iload_n 2, 1) := by decide +kernel
theorem dX11_turnings_74 : decode cX11_turnings 74 = .ok (.istore 5, 2) := by decide +kernel
theorem dX11_turnings_76 : decode cX11_turnings 76 = .ok (.iload 5, 2) := by decide +kernel
theorem dX11_turnings_78 : decode cX11_turnings 78 = .ok (.iconst 1, 1) := by decide +kernel
theorem dX11_turnings_79 : decode cX11_turnings 79 = .ok (.if_icmp .le 54, 3) := by decide +kernel
theorem dX11_turnings_82 : decode cX11_turnings 82 = .ok (.iload_n 3, 1) := by decide +kernel
theorem dX11_turnings_83 : decode cX11_turnings 83 = .ok (.ifCond .le 50, 3) := by decide +kernel
theorem dX11_turnings_86 : decode cX11_turnings 86 = .ok (.aload_n 0, 1) := by decide +kernel
theorem dX11_turnings_87 : decode cX11_turnings 87 = .ok (.getfield 58, 3) := by decide +kernel
theorem dX11_turnings_90 : decode cX11_turnings 90 = .ok (.aload_n 0, 1) := by decide +kernel
theorem dX11_turnings_91 : decode cX11_turnings 91 = .ok (.getfield 61, 3) := by decide +kernel
theorem dX11_turnings_94 : decode cX11_turnings 94 = .ok (.iload_n 2, 1) := by decide +kernel
theorem dX11_turnings_95 : decode cX11_turnings 95 = .ok (.iload 5, 2) := by decide +kernel
theorem dX11_turnings_97 : decode cX11_turnings 97 = .ok (.invokestatic 204, 3) := by decide +kernel
theorem dX11_turnings_100 : decode cX11_turnings 100 = .ok (.aload_n 0, 1) := by decide +kernel
theorem dX11_turnings_101 : decode cX11_turnings 101 = .ok (.aload_n 0, 1) := by decide +kernel
theorem dX11_turnings_102 : decode cX11_turnings 102 = .ok (.getfield 61, 3) := by decide +kernel
theorem dX11_turnings_105 : decode cX11_turnings 105 = .ok (.iload_n 2, 1) := by decide +kernel
theorem dX11_turnings_106 : decode cX11_turnings 106 = .ok (.invokestatic 208, 3) := by decide +kernel
theorem dX11_turnings_109 : decode cX11_turnings 109 = .ok (.invokevirtual 197, 3) := by decide +kernel
theorem dX11_turnings_112 : decode cX11_turnings 112 = .ok (.iload_n 3, 1) := by decide +kernel
theorem dX11_turnings_113 : decode cX11_turnings 113 = .ok (.iconst 1, 1) := by decide +kernel
theorem dX11_turnings_114 : decode cX11_turnings 114 = .ok (.isub, 1) := by decide +kernel
theorem dX11_turnings_115 : decode cX11_turnings 115 = .ok (.if_icmp .ne 8, 3) := by decide +kernel
theorem dX11_turnings_118 : decode cX11_turnings 118 = .ok (.iload 5, 2) := by decide +kernel
theorem dX11_turnings_120 : decode cX11_turnings 120 = .ok (.goto 5, 3) := by decide +kernel
theorem dX11_turnings_123 : decode cX11_turnings 123 = .ok (.iload 4, 2) := by decide +kernel
theorem dX11_turnings_125 : decode cX11_turnings 125 = .ok (.istore 4, 2) := by decide +kernel
theorem dX11_turnings_127 : decode cX11_turnings 127 = .ok (.iinc 5 (-1), 3) := by decide +kernel
theorem dX11_turnings_130 : decode cX11_turnings 130 = .ok (.goto (-54), 3) := by decide +kernel
theorem dX11_turnings_133 : decode cX11_turnings 133 = .ok (.iload 4, 2) := by decide +kernel
theorem dX11_turnings_135 : decode cX11_turnings 135 = .ok (.ireturn, 1) := by decide +kernel
theorem dX11_loose_0 : decode cX11_loose 0 = .ok (.iload_n 1, 1) := by decide +kernel
theorem dX11_loose_1 : decode cX11_loose 1 = .ok (.iconst 0, 1) := by decide +kernel
theorem dX11_loose_2 : decode cX11_loose 2 = .ok (.iconst 1, 1) := by decide +kernel
theorem dX11_loose_3 : decode cX11_loose 3 = .ok (.invokestatic 67, 3) := by decide +kernel
theorem dX11_loose_6 : decode cX11_loose 6 = .ok (.ifCond .ne 6, 3) := by decide +kernel
theorem dX11_loose_9 : decode cX11_loose 9 = .ok (.ldc 71, 2) := by decide +kernel
theorem dX11_loose_11 : decode cX11_loose 11 = .ok (.ireturn, 1) := by decide +kernel
theorem dX11_loose_12 : decode cX11_loose 12 = .ok (.iconst (-1), 1) := by decide +kernel
theorem dX11_loose_13 : decode cX11_loose 13 = .ok (.istore_n 2, 1) := by decide +kernel
theorem dX11_loose_14 : decode cX11_loose 14 = .ok (.iconst 0, 1) := by decide +kernel
theorem dX11_loose_15 : decode cX11_loose 15 = .ok (.istore_n 3, 1) := by decide +kernel
theorem dX11_loose_16 : decode cX11_loose 16 = .ok (.iload_n 3, 1) := by decide +kernel
theorem dX11_loose_17 : decode cX11_loose 17 = .ok (.iconst 1, 1) := by decide +kernel
theorem dX11_loose_18 : decode cX11_loose 18 = .ok (.aload_n 0, 1) := by decide +kernel
theorem dX11_loose_19 : decode cX11_loose 19 = .ok (.getfield 13, 3) := by decide +kernel
theorem dX11_loose_22 : decode cX11_loose 22 = .ok (.iconst 1, 1) := by decide +kernel
theorem dX11_loose_23 : decode cX11_loose 23 = .ok (.iaload, 1) := by decide +kernel
theorem dX11_loose_24 : decode cX11_loose 24 = .ok (.ishl, 1) := by decide +kernel
theorem dX11_loose_25 : decode cX11_loose 25 = .ok (.if_icmp .ge 133, 3) := by decide +kernel
theorem dX11_loose_28 : decode cX11_loose 28 = .ok (.iconst (-1), 1) := by decide +kernel
theorem dX11_loose_29 : decode cX11_loose 29 = .ok (.istore 4, 2) := by decide +kernel
theorem dX11_loose_31 : decode cX11_loose 31 = .ok (.iload_n 3, 1) := by decide +kernel
theorem dX11_loose_32 : decode cX11_loose 32 = .ok (.aload_n 0, 1) := by decide +kernel
theorem dX11_loose_33 : decode cX11_loose 33 = .ok (.invokevirtual 135, 3) := by decide +kernel
theorem dX11_loose_36 : decode cX11_loose 36 = .ok (.iconst (-1), 1) := by decide +kernel
theorem dX11_loose_37 : decode cX11_loose 37 = .ok (.ixor, 1) := by decide +kernel
theorem dX11_loose_38 : decode cX11_loose 38 = .ok (.iand, 1) := by decide +kernel
theorem dX11_loose_39 : decode cX11_loose 39 = .ok (.ifCond .ne 7, 3) := by decide +kernel
theorem dX11_loose_42 : decode cX11_loose 42 = .ok (.iconst 1, 1) := by decide +kernel
theorem dX11_loose_43 : decode cX11_loose 43 = .ok (.goto 4, 3) := by decide +kernel
theorem dX11_loose_46 : decode cX11_loose 46 = .ok (.iconst 0, 1) := by decide +kernel
theorem dX11_loose_47 : decode cX11_loose 47 = .ok (.istore 5, 2) := by decide +kernel
theorem dX11_loose_49 : decode cX11_loose 49 = .ok (.iconst 0, 1) := by decide +kernel
theorem dX11_loose_50 : decode cX11_loose 50 = .ok (.istore 6, 2) := by decide +kernel
theorem dX11_loose_52 : decode cX11_loose 52 = .ok (.iload 6, 2) := by decide +kernel
theorem dX11_loose_54 : decode cX11_loose 54 = .ok (.aload_n 0, 1) := by decide +kernel
theorem dX11_loose_55 : decode cX11_loose 55 = .ok (.getfield 19, 3) := by decide +kernel
theorem dX11_loose_58 : decode cX11_loose 58 = .ok (.iconst 2, 1) := by decide +kernel
theorem dX11_loose_59 : decode cX11_loose 59 = .ok (.iaload, 1) := by decide +kernel
theorem dX11_loose_60 : decode cX11_loose 60 = .ok (.if_icmp .ge 66, 3) := by decide +kernel
theorem dX11_loose_63 : decode cX11_loose 63 = .ok (.aload_n 0, 1) := by decide +kernel
theorem dX11_loose_64 : decode cX11_loose 64 = .ok (.getfield 19, 3) := by decide +kernel
theorem dX11_loose_67 : decode cX11_loose 67 = .ok (.iconst 4, 1) := by decide +kernel
theorem dX11_loose_68 : decode cX11_loose 68 = .ok (.iload 6, 2) := by decide +kernel
theorem dX11_loose_70 : decode cX11_loose 70 = .ok (.iadd, 1) := by decide +kernel
theorem dX11_loose_71 : decode cX11_loose 71 = .ok (.iaload, 1) := by decide +kernel
theorem dX11_loose_72 : decode cX11_loose 72 = .ok (.istore 7, 2) := by decide +kernel
theorem dX11_loose_74 : decode cX11_loose 74 = .ok (.iload 5, 2) := by decide +kernel
theorem dX11_loose_76 : decode cX11_loose 76 = .ok (.ifCond .eq 23, 3) := by decide +kernel
theorem dX11_loose_79 : decode cX11_loose 79 = .ok (.iload_n 3, 1) := by decide +kernel
theorem dX11_loose_80 : decode cX11_loose 80 = .ok (.iload 7, 2) := by decide +kernel
theorem dX11_loose_82 : decode cX11_loose 82 = .ok (.invokestatic 118, 3) := by decide +kernel
theorem dX11_loose_85 : decode cX11_loose 85 = .ok (.ifCond .ne 10, 3) := by decide +kernel
theorem dX11_loose_88 : decode cX11_loose 88 = .ok (.iload 7, 2) := by decide +kernel
theorem dX11_loose_90 : decode cX11_loose 90 = .ok (.iload 4, 2) := by decide +kernel
theorem dX11_loose_92 : decode cX11_loose 92 = .ok (.if_icmp .le 7, 3) := by decide +kernel
theorem dX11_loose_95 : decode cX11_loose 95 = .ok (.iconst 1, 1) := by decide +kernel
theorem dX11_loose_96 : decode cX11_loose 96 = .ok (.goto 4, 3) := by decide +kernel
theorem dX11_loose_99 : decode cX11_loose 99 = .ok (.iconst 0, 1) := by decide +kernel
theorem dX11_loose_100 : decode cX11_loose 100 = .ok (.istore 5, 2) := by decide +kernel
theorem dX11_loose_102 : decode cX11_loose 102 = .ok (.iload_n 3, 1) := by decide +kernel
theorem dX11_loose_103 : decode cX11_loose 103 = .ok (.iload 7, 2) := by decide +kernel
theorem dX11_loose_105 : decode cX11_loose 105 = .ok (.invokestatic 118, 3) := by decide +kernel
theorem dX11_loose_108 : decode cX11_loose 108 = .ok (.ifCond .eq 8, 3) := by decide +kernel
theorem dX11_loose_111 : decode cX11_loose 111 = .ok (.iload 4, 2) := by decide +kernel
theorem dX11_loose_113 : decode cX11_loose 113 = .ok (.goto 5, 3) := by decide +kernel
theorem dX11_loose_116 : decode cX11_loose 116 = .ok (.iload 7, 2) := by decide +kernel
theorem dX11_loose_118 : decode cX11_loose 118 = .ok (.istore 4, 2) := by decide +kernel
theorem dX11_loose_120 : decode cX11_loose 120 = .ok (.iinc 6 1, 3) := by decide +kernel
theorem dX11_loose_123 : decode cX11_loose 123 = .ok (.goto (-71), 3) := by decide +kernel
theorem dX11_loose_126 : decode cX11_loose 126 = .ok (.iload 5, 2) := by decide +kernel
theorem dX11_loose_128 : decode cX11_loose 128 = .ok (.ifCond .eq 22, 3) := by decide +kernel
theorem dX11_loose_131 : decode cX11_loose 131 = .ok (.iload_n 2, 1) := by decide +kernel
theorem dX11_loose_132 : decode cX11_loose 132 = .ok (.ifCond .lt 14, 3) := by decide +kernel
theorem dX11_loose_135 : decode cX11_loose 135 = .ok (.iload_n 3, 1) := by decide +kernel
theorem dX11_loose_136 : decode cX11_loose 136 = .ok (.invokestatic 174, 3) := by decide +kernel
theorem dX11_loose_139 : decode cX11_loose 139 = .ok (.iload_n 2, 1) := by decide +kernel
theorem dX11_loose_140 : decode cX11_loose 140 = .ok (.invokestatic 174, 3) := by decide +kernel
theorem dX11_loose_143 : decode cX11_loose 143 = .ok (.if_icmp .ge 7, 3) := by decide +kernel
theorem dX11_loose_146 : decode cX11_loose 146 = .ok (.iload_n 3, 1) := by decide +kernel
theorem dX11_loose_147 : decode cX11_loose 147 = .ok (.goto 4, 3) := by decide +kernel
theorem dX11_loose_150 : decode cX11_loose 150 = .ok (.iload_n 2, 1) := by decide +kernel
theorem dX11_loose_151 : decode cX11_loose 151 = .ok (.istore_n 2, 1) := by decide +kernel
theorem dX11_loose_152 : decode cX11_loose 152 = .ok (.iinc 3 1, 3) := by decide +kernel
theorem dX11_loose_155 : decode cX11_loose 155 = .ok (.goto (-139), 3) := by decide +kernel
theorem dX11_loose_158 : decode cX11_loose 158 = .ok (.iload_n 1, 1) := by decide +kernel
theorem dX11_loose_159 : decode cX11_loose 159 = .ok (.ifCond .ne 10, 3) := by decide +kernel
theorem dX11_loose_162 : decode cX11_loose 162 = .ok (.iload_n 2, 1) := by decide +kernel
theorem dX11_loose_163 : decode cX11_loose 163 = .ok (.invokestatic 174, 3) := by decide +kernel
theorem dX11_loose_166 : decode cX11_loose 166 = .ok (.goto 4, 3) := by decide +kernel
theorem dX11_loose_169 : decode cX11_loose 169 = .ok (.iload_n 2, 1) := by decide +kernel
theorem dX11_loose_170 : decode cX11_loose 170 = .ok (.ireturn, 1) := by decide +kernel
theorem dX11_feltAt_0 : decode cX11_feltAt 0 = .ok (.iload_n 1, 1) := by decide +kernel
theorem dX11_feltAt_1 : decode cX11_feltAt 1 = .ok (.istore_n 3, 1) := by decide +kernel
theorem dX11_feltAt_2 : decode cX11_feltAt 2 = .ok (.iconst 0, 1) := by decide +kernel
theorem dX11_feltAt_3 : decode cX11_feltAt 3 = .ok (.istore 4, 2) := by decide +kernel
theorem dX11_feltAt_5 : decode cX11_feltAt 5 = .ok (.iload 4, 2) := by decide +kernel
theorem dX11_feltAt_7 : decode cX11_feltAt 7 = .ok (.aload_n 0, 1) := by decide +kernel
theorem dX11_feltAt_8 : decode cX11_feltAt 8 = .ok (.getfield 19, 3) := by decide +kernel
theorem dX11_feltAt_11 : decode cX11_feltAt 11 = .ok (.iconst 2, 1) := by decide +kernel
theorem dX11_feltAt_12 : decode cX11_feltAt 12 = .ok (.iaload, 1) := by decide +kernel
theorem dX11_feltAt_13 : decode cX11_feltAt 13 = .ok (.if_icmp .ge 68, 3) := by decide +kernel
theorem dX11_feltAt_16 : decode cX11_feltAt 16 = .ok (.iload 4, 2) := by decide +kernel
theorem dX11_feltAt_18 : decode cX11_feltAt 18 = .ok (.iload_n 2, 1) := by decide +kernel
theorem dX11_feltAt_19 : decode cX11_feltAt 19 = .ok (.if_icmp .ge 62, 3) := by decide +kernel
theorem dX11_feltAt_22 : decode cX11_feltAt 22 = .ok (.aload_n 0, 1) := by decide +kernel
theorem dX11_feltAt_23 : decode cX11_feltAt 23 = .ok (.getfield 19, 3) := by decide +kernel
theorem dX11_feltAt_26 : decode cX11_feltAt 26 = .ok (.iconst 4, 1) := by decide +kernel
theorem dX11_feltAt_27 : decode cX11_feltAt 27 = .ok (.iload 4, 2) := by decide +kernel
theorem dX11_feltAt_29 : decode cX11_feltAt 29 = .ok (.iadd, 1) := by decide +kernel
theorem dX11_feltAt_30 : decode cX11_feltAt 30 = .ok (.iaload, 1) := by decide +kernel
theorem dX11_feltAt_31 : decode cX11_feltAt 31 = .ok (.istore 5, 2) := by decide +kernel
theorem dX11_feltAt_33 : decode cX11_feltAt 33 = .ok (.iload_n 3, 1) := by decide +kernel
theorem dX11_feltAt_34 : decode cX11_feltAt 34 = .ok (.aload_n 0, 1) := by decide +kernel
theorem dX11_feltAt_35 : decode cX11_feltAt 35 = .ok (.getfield 19, 3) := by decide +kernel
theorem dX11_feltAt_38 : decode cX11_feltAt 38 = .ok (.iconst 3, 1) := by decide +kernel
theorem dX11_feltAt_39 : decode cX11_feltAt 39 = .ok (.iaload, 1) := by decide +kernel
theorem dX11_feltAt_40 : decode cX11_feltAt 40 = .ok (.iload 5, 2) := by decide +kernel
theorem dX11_feltAt_42 : decode cX11_feltAt 42 = .ok (.invokestatic 118, 3) := by decide +kernel
theorem dX11_feltAt_45 : decode cX11_feltAt 45 = .ok (.ifCond .eq 18, 3) := by decide +kernel
theorem dX11_feltAt_48 : decode cX11_feltAt 48 = .ok (.iconst 2, 1) := by decide +kernel
theorem dX11_feltAt_49 : decode cX11_feltAt 49 = .ok (.aload_n 0, 1) := by decide +kernel
theorem dX11_feltAt_50 : decode cX11_feltAt 50 = .ok (.getfield 13, 3) := by decide +kernel
theorem dX11_feltAt_53 : decode cX11_feltAt 53 = .ok (.bipush 12, 2) := by decide +kernel
theorem dX11_feltAt_55 : decode cX11_feltAt 55 = .ok (.iload 5, 2) := by decide +kernel
theorem dX11_feltAt_57 : decode cX11_feltAt 57 = .ok (.iadd, 1) := by decide +kernel
theorem dX11_feltAt_58 : decode cX11_feltAt 58 = .ok (.iaload, 1) := by decide +kernel
theorem dX11_feltAt_59 : decode cX11_feltAt 59 = .ok (.imul, 1) := by decide +kernel
theorem dX11_feltAt_60 : decode cX11_feltAt 60 = .ok (.goto 13, 3) := by decide +kernel
theorem dX11_feltAt_63 : decode cX11_feltAt 63 = .ok (.aload_n 0, 1) := by decide +kernel
theorem dX11_feltAt_64 : decode cX11_feltAt 64 = .ok (.getfield 13, 3) := by decide +kernel
theorem dX11_feltAt_67 : decode cX11_feltAt 67 = .ok (.bipush 12, 2) := by decide +kernel
theorem dX11_feltAt_69 : decode cX11_feltAt 69 = .ok (.iload 5, 2) := by decide +kernel
theorem dX11_feltAt_71 : decode cX11_feltAt 71 = .ok (.iadd, 1) := by decide +kernel
theorem dX11_feltAt_72 : decode cX11_feltAt 72 = .ok (.iaload, 1) := by decide +kernel
theorem dX11_feltAt_73 : decode cX11_feltAt 73 = .ok (.isub, 1) := by decide +kernel
theorem dX11_feltAt_74 : decode cX11_feltAt 74 = .ok (.istore_n 3, 1) := by decide +kernel
theorem dX11_feltAt_75 : decode cX11_feltAt 75 = .ok (.iinc 4 1, 3) := by decide +kernel
theorem dX11_feltAt_78 : decode cX11_feltAt 78 = .ok (.goto (-73), 3) := by decide +kernel
theorem dX11_feltAt_81 : decode cX11_feltAt 81 = .ok (.iload_n 3, 1) := by decide +kernel
theorem dX11_feltAt_82 : decode cX11_feltAt 82 = .ok (.ifCond .ge 7, 3) := by decide +kernel
theorem dX11_feltAt_85 : decode cX11_feltAt 85 = .ok (.iconst 0, 1) := by decide +kernel
theorem dX11_feltAt_86 : decode cX11_feltAt 86 = .ok (.goto 4, 3) := by decide +kernel
theorem dX11_feltAt_89 : decode cX11_feltAt 89 = .ok (.iload_n 3, 1) := by decide +kernel
theorem dX11_feltAt_90 : decode cX11_feltAt 90 = .ok (.ireturn, 1) := by decide +kernel
theorem dX11_felt_0 : decode cX11_felt 0 = .ok (.iload_n 1, 1) := by decide +kernel
theorem dX11_felt_1 : decode cX11_felt 1 = .ok (.iconst 0, 1) := by decide +kernel
theorem dX11_felt_2 : decode cX11_felt 2 = .ok (.bipush 99, 2) := by decide +kernel
theorem dX11_felt_4 : decode cX11_felt 4 = .ok (.invokestatic 67, 3) := by decide +kernel
theorem dX11_felt_7 : decode cX11_felt 7 = .ok (.ifCond .eq 22, 3) := by decide +kernel
theorem dX11_felt_10 : decode cX11_felt 10 = .ok (.iload_n 2, 1) := by decide +kernel
theorem dX11_felt_11 : decode cX11_felt 11 = .ok (.iconst 0, 1) := by decide +kernel
theorem dX11_felt_12 : decode cX11_felt 12 = .ok (.bipush 7, 2) := by decide +kernel
theorem dX11_felt_14 : decode cX11_felt 14 = .ok (.invokestatic 67, 3) := by decide +kernel
theorem dX11_felt_17 : decode cX11_felt 17 = .ok (.ifCond .eq 12, 3) := by decide +kernel
theorem dX11_felt_20 : decode cX11_felt 20 = .ok (.aload_n 0, 1) := by decide +kernel
theorem dX11_felt_21 : decode cX11_felt 21 = .ok (.iload_n 1, 1) := by decide +kernel
theorem dX11_felt_22 : decode cX11_felt 22 = .ok (.iload_n 2, 1) := by decide +kernel
theorem dX11_felt_23 : decode cX11_felt 23 = .ok (.invokevirtual 215, 3) := by decide +kernel
theorem dX11_felt_26 : decode cX11_felt 26 = .ok (.goto 5, 3) := by decide +kernel
theorem dX11_felt_29 : decode cX11_felt 29 = .ok (.ldc 71, 2) := by decide +kernel
theorem dX11_felt_31 : decode cX11_felt 31 = .ok (.ireturn, 1) := by decide +kernel
theorem dX11_farthest_0 : decode cX11_farthest 0 = .ok (.iload_n 1, 1) := by decide +kernel
theorem dX11_farthest_1 : decode cX11_farthest 1 = .ok (.iconst 0, 1) := by decide +kernel
theorem dX11_farthest_2 : decode cX11_farthest 2 = .ok (.bipush 99, 2) := by decide +kernel
theorem dX11_farthest_4 : decode cX11_farthest 4 = .ok (.invokestatic 67, 3) := by decide +kernel
theorem dX11_farthest_7 : decode cX11_farthest 7 = .ok (.ifCond .ne 6, 3) := by decide +kernel
theorem dX11_farthest_10 : decode cX11_farthest 10 = .ok (.ldc 71, 2) := by decide +kernel
theorem dX11_farthest_12 : decode cX11_farthest 12 = .ok (.ireturn, 1) := by decide +kernel
theorem dX11_farthest_13 : decode cX11_farthest 13 = .ok (.iconst (-1), 1) := by decide +kernel
theorem dX11_farthest_14 : decode cX11_farthest 14 = .ok (.istore_n 2, 1) := by decide +kernel
theorem dX11_farthest_15 : decode cX11_farthest 15 = .ok (.iconst 0, 1) := by decide +kernel
theorem dX11_farthest_16 : decode cX11_farthest 16 = .ok (.istore_n 3, 1) := by decide +kernel
theorem dX11_farthest_17 : decode cX11_farthest 17 = .ok (.iload_n 3, 1) := by decide +kernel
theorem dX11_farthest_18 : decode cX11_farthest 18 = .ok (.aload_n 0, 1) := by decide +kernel
theorem dX11_farthest_19 : decode cX11_farthest 19 = .ok (.getfield 19, 3) := by decide +kernel
theorem dX11_farthest_22 : decode cX11_farthest 22 = .ok (.iconst 2, 1) := by decide +kernel
theorem dX11_farthest_23 : decode cX11_farthest 23 = .ok (.iaload, 1) := by decide +kernel
theorem dX11_farthest_24 : decode cX11_farthest 24 = .ok (.if_icmp .ge 24, 3) := by decide +kernel
theorem dX11_farthest_27 : decode cX11_farthest 27 = .ok (.aload_n 0, 1) := by decide +kernel
theorem dX11_farthest_28 : decode cX11_farthest 28 = .ok (.iload_n 1, 1) := by decide +kernel
theorem dX11_farthest_29 : decode cX11_farthest 29 = .ok (.iload_n 3, 1) := by decide +kernel
theorem dX11_farthest_30 : decode cX11_farthest 30 = .ok (.invokevirtual 215, 3) := by decide +kernel
theorem dX11_farthest_33 : decode cX11_farthest 33 = .ok (.ifCond .le 7, 3) := by decide +kernel
theorem dX11_farthest_36 : decode cX11_farthest 36 = .ok (.iload_n 3, 1) := by decide +kernel
theorem dX11_farthest_37 : decode cX11_farthest 37 = .ok (.goto 4, 3) := by decide +kernel
theorem dX11_farthest_40 : decode cX11_farthest 40 = .ok (.iload_n 2, 1) := by decide +kernel
theorem dX11_farthest_41 : decode cX11_farthest 41 = .ok (.istore_n 2, 1) := by decide +kernel
theorem dX11_farthest_42 : decode cX11_farthest 42 = .ok (.iinc 3 1, 3) := by decide +kernel
theorem dX11_farthest_45 : decode cX11_farthest 45 = .ok (.goto (-28), 3) := by decide +kernel
theorem dX11_farthest_48 : decode cX11_farthest 48 = .ok (.iload_n 2, 1) := by decide +kernel
theorem dX11_farthest_49 : decode cX11_farthest 49 = .ok (.ireturn, 1) := by decide +kernel
theorem dX11_hooked_0 : decode cX11_hooked 0 = .ok (.iload_n 1, 1) := by decide +kernel
theorem dX11_hooked_1 : decode cX11_hooked 1 = .ok (.iconst 0, 1) := by decide +kernel
theorem dX11_hooked_2 : decode cX11_hooked 2 = .ok (.iconst 1, 1) := by decide +kernel
theorem dX11_hooked_3 : decode cX11_hooked 3 = .ok (.aload_n 0, 1) := by decide +kernel
theorem dX11_hooked_4 : decode cX11_hooked 4 = .ok (.getfield 13, 3) := by decide +kernel
theorem dX11_hooked_7 : decode cX11_hooked 7 = .ok (.iconst 1, 1) := by decide +kernel
theorem dX11_hooked_8 : decode cX11_hooked 8 = .ok (.iaload, 1) := by decide +kernel
theorem dX11_hooked_9 : decode cX11_hooked 9 = .ok (.ishl, 1) := by decide +kernel
theorem dX11_hooked_10 : decode cX11_hooked 10 = .ok (.iconst 1, 1) := by decide +kernel
theorem dX11_hooked_11 : decode cX11_hooked 11 = .ok (.isub, 1) := by decide +kernel
theorem dX11_hooked_12 : decode cX11_hooked 12 = .ok (.invokestatic 67, 3) := by decide +kernel
theorem dX11_hooked_15 : decode cX11_hooked 15 = .ok (.ifCond .ne 6, 3) := by decide +kernel
theorem dX11_hooked_18 : decode cX11_hooked 18 = .ok (.ldc 156, 2) := by decide +kernel
theorem dX11_hooked_20 : decode cX11_hooked 20 = .ok (.ireturn, 1) := by decide +kernel
theorem dX11_hooked_21 : decode cX11_hooked 21 = .ok (.iconst (-1), 1) := by decide +kernel
theorem dX11_hooked_22 : decode cX11_hooked 22 = .ok (.istore_n 2, 1) := by decide +kernel
theorem dX11_hooked_23 : decode cX11_hooked 23 = .ok (.iconst 0, 1) := by decide +kernel
theorem dX11_hooked_24 : decode cX11_hooked 24 = .ok (.istore_n 3, 1) := by decide +kernel
theorem dX11_hooked_25 : decode cX11_hooked 25 = .ok (.iload_n 3, 1) := by decide +kernel
theorem dX11_hooked_26 : decode cX11_hooked 26 = .ok (.iconst 1, 1) := by decide +kernel
theorem dX11_hooked_27 : decode cX11_hooked 27 = .ok (.aload_n 0, 1) := by decide +kernel
theorem dX11_hooked_28 : decode cX11_hooked 28 = .ok (.getfield 13, 3) := by decide +kernel
theorem dX11_hooked_31 : decode cX11_hooked 31 = .ok (.iconst 3, 1) := by decide +kernel
theorem dX11_hooked_32 : decode cX11_hooked 32 = .ok (.iaload, 1) := by decide +kernel
theorem dX11_hooked_33 : decode cX11_hooked 33 = .ok (.ishl, 1) := by decide +kernel
theorem dX11_hooked_34 : decode cX11_hooked 34 = .ok (.if_icmp .ge 99, 3) := by decide +kernel
theorem dX11_hooked_37 : decode cX11_hooked 37 = .ok (.iconst 0, 1) := by decide +kernel
theorem dX11_hooked_38 : decode cX11_hooked 38 = .ok (.istore 4, 2) := by decide +kernel
theorem dX11_hooked_40 : decode cX11_hooked 40 = .ok (.iconst 0, 1) := by decide +kernel
theorem dX11_hooked_41 : decode cX11_hooked 41 = .ok (.istore 5, 2) := by decide +kernel
theorem dX11_hooked_43 : decode cX11_hooked 43 = .ok (.iload 5, 2) := by decide +kernel
theorem dX11_hooked_45 : decode cX11_hooked 45 = .ok (.aload_n 0, 1) := by decide +kernel
theorem dX11_hooked_46 : decode cX11_hooked 46 = .ok (.getfield 13, 3) := by decide +kernel
theorem dX11_hooked_49 : decode cX11_hooked 49 = .ok (.iconst 3, 1) := by decide +kernel
theorem dX11_hooked_50 : decode cX11_hooked 50 = .ok (.iaload, 1) := by decide +kernel
theorem dX11_hooked_51 : decode cX11_hooked 51 = .ok (.if_icmp .ge 33, 3) := by decide +kernel
theorem dX11_hooked_54 : decode cX11_hooked 54 = .ok (.iload 4, 2) := by decide +kernel
theorem dX11_hooked_56 : decode cX11_hooked 56 = .ok (.iload_n 3, 1) := by decide +kernel
theorem dX11_hooked_57 : decode cX11_hooked 57 = .ok (.iload 5, 2) := by decide +kernel
theorem dX11_hooked_59 : decode cX11_hooked 59 = .ok (.invokestatic 118, 3) := by decide +kernel
theorem dX11_hooked_62 : decode cX11_hooked 62 = .ok (.ifCond .eq 12, 3) := by decide +kernel
theorem dX11_hooked_65 : decode cX11_hooked 65 = .ok (.aload_n 0, 1) := by decide +kernel
theorem dX11_hooked_66 : decode cX11_hooked 66 = .ok (.iload 5, 2) := by decide +kernel
theorem dX11_hooked_68 : decode cX11_hooked 68 = .ok (.invokevirtual 160, 3) := by decide +kernel
theorem dX11_hooked_71 : decode cX11_hooked 71 = .ok (.goto 4, 3) := by decide +kernel
theorem dX11_hooked_74 : decode cX11_hooked 74 = .ok (.iconst 0, 1) := by decide +kernel
theorem dX11_hooked_75 : decode cX11_hooked 75 = .ok (.ior, 1) := by decide +kernel
theorem dX11_hooked_76 : decode cX11_hooked 76 = .ok (.istore 4, 2) := by decide +kernel
theorem dX11_hooked_78 : decode cX11_hooked 78 = .ok (.iinc 5 1, 3) := by decide +kernel
theorem dX11_hooked_81 : decode cX11_hooked 81 = .ok (.goto (-38), 3) := by decide +kernel
theorem dX11_hooked_84 : decode cX11_hooked 84 = .ok (.iload_n 1, 1) := by decide +kernel
theorem dX11_hooked_85 : decode cX11_hooked 85 = .ok (.iload 4, 2) := by decide +kernel
theorem dX11_hooked_87 : decode cX11_hooked 87 = .ok (.iconst (-1), 1) := by decide +kernel
theorem dX11_hooked_88 : decode cX11_hooked 88 = .ok (.ixor, 1) := by decide +kernel
theorem dX11_hooked_89 : decode cX11_hooked 89 = .ok (.iand, 1) := by decide +kernel
theorem dX11_hooked_90 : decode cX11_hooked 90 = .ok (.ifCond .ne 7, 3) := by decide +kernel
theorem dX11_hooked_93 : decode cX11_hooked 93 = .ok (.iconst 1, 1) := by decide +kernel
theorem dX11_hooked_94 : decode cX11_hooked 94 = .ok (.goto 4, 3) := by decide +kernel
theorem dX11_hooked_97 : decode cX11_hooked 97 = .ok (.iconst 0, 1) := by decide +kernel
theorem dX11_hooked_98 : decode cX11_hooked 98 = .ok (.istore 5, 2) := by decide +kernel
theorem dX11_hooked_100 : decode cX11_hooked 100 = .ok (.iload 5, 2) := by decide +kernel
theorem dX11_hooked_102 : decode cX11_hooked 102 = .ok (.ifCond .eq 23, 3) := by decide +kernel
theorem dX11_hooked_105 : decode cX11_hooked 105 = .ok (.iload_n 2, 1) := by decide +kernel
theorem dX11_hooked_106 : decode cX11_hooked 106 = .ok (.iconst (-1), 1) := by decide +kernel
theorem dX11_hooked_107 : decode cX11_hooked 107 = .ok (.if_icmp .eq 14, 3) := by decide +kernel
theorem dX11_hooked_110 : decode cX11_hooked 110 = .ok (.iload_n 3, 1) := by decide +kernel
theorem dX11_hooked_111 : decode cX11_hooked 111 = .ok (.invokestatic 174, 3) := by decide +kernel
theorem dX11_hooked_114 : decode cX11_hooked 114 = .ok (.iload_n 2, 1) := by decide +kernel
theorem dX11_hooked_115 : decode cX11_hooked 115 = .ok (.invokestatic 174, 3) := by decide +kernel
theorem dX11_hooked_118 : decode cX11_hooked 118 = .ok (.if_icmp .ge 7, 3) := by decide +kernel
theorem dX11_hooked_121 : decode cX11_hooked 121 = .ok (.iload_n 3, 1) := by decide +kernel
theorem dX11_hooked_122 : decode cX11_hooked 122 = .ok (.goto 4, 3) := by decide +kernel
theorem dX11_hooked_125 : decode cX11_hooked 125 = .ok (.iload_n 2, 1) := by decide +kernel
theorem dX11_hooked_126 : decode cX11_hooked 126 = .ok (.istore_n 2, 1) := by decide +kernel
theorem dX11_hooked_127 : decode cX11_hooked 127 = .ok (.iinc 3 1, 3) := by decide +kernel
theorem dX11_hooked_130 : decode cX11_hooked 130 = .ok (.goto (-105), 3) := by decide +kernel
theorem dX11_hooked_133 : decode cX11_hooked 133 = .ok (.iload_n 2, 1) := by decide +kernel
theorem dX11_hooked_134 : decode cX11_hooked 134 = .ok (.ireturn, 1) := by decide +kernel
theorem dX11_gap_0 : decode cX11_gap 0 = .ok (.iload_n 1, 1) := by decide +kernel
theorem dX11_gap_1 : decode cX11_gap 1 = .ok (.iconst 0, 1) := by decide +kernel
theorem dX11_gap_2 : decode cX11_gap 2 = .ok (.aload_n 0, 1) := by decide +kernel
theorem dX11_gap_3 : decode cX11_gap 3 = .ok (.getfield 19, 3) := by decide +kernel
theorem dX11_gap_6 : decode cX11_gap 6 = .ok (.iconst 2, 1) := by decide +kernel
theorem dX11_gap_7 : decode cX11_gap 7 = .ok (.iaload, 1) := by decide +kernel
theorem dX11_gap_8 : decode cX11_gap 8 = .ok (.invokestatic 67, 3) := by decide +kernel
theorem dX11_gap_11 : decode cX11_gap 11 = .ok (.ifCond .ne 6, 3) := by decide +kernel
theorem dX11_gap_14 : decode cX11_gap 14 = .ok (.ldc 71, 2) := by decide +kernel
theorem dX11_gap_16 : decode cX11_gap 16 = .ok (.ireturn, 1) := by decide +kernel
theorem dX11_gap_17 : decode cX11_gap 17 = .ok (.iconst 0, 1) := by decide +kernel
theorem dX11_gap_18 : decode cX11_gap 18 = .ok (.istore_n 2, 1) := by decide +kernel
theorem dX11_gap_19 : decode cX11_gap 19 = .ok (.aload_n 0, 1) := by decide +kernel
theorem dX11_gap_20 : decode cX11_gap 20 = .ok (.invokevirtual 135, 3) := by decide +kernel
theorem dX11_gap_23 : decode cX11_gap 23 = .ok (.istore_n 3, 1) := by decide +kernel
theorem dX11_gap_24 : decode cX11_gap 24 = .ok (.iconst 0, 1) := by decide +kernel
theorem dX11_gap_25 : decode cX11_gap 25 = .ok (.istore 4, 2) := by decide +kernel
theorem dX11_gap_27 : decode cX11_gap 27 = .ok (.iload 4, 2) := by decide +kernel
theorem dX11_gap_29 : decode cX11_gap 29 = .ok (.aload_n 0, 1) := by decide +kernel
theorem dX11_gap_30 : decode cX11_gap 30 = .ok (.getfield 13, 3) := by decide +kernel
theorem dX11_gap_33 : decode cX11_gap 33 = .ok (.iconst 1, 1) := by decide +kernel
theorem dX11_gap_34 : decode cX11_gap 34 = .ok (.iaload, 1) := by decide +kernel
theorem dX11_gap_35 : decode cX11_gap 35 = .ok (.if_icmp .ge 83, 3) := by decide +kernel
theorem dX11_gap_38 : decode cX11_gap 38 = .ok (.iload_n 3, 1) := by decide +kernel
theorem dX11_gap_39 : decode cX11_gap 39 = .ok (.iload 4, 2) := by decide +kernel
theorem dX11_gap_41 : decode cX11_gap 41 = .ok (.invokestatic 118, 3) := by decide +kernel
theorem dX11_gap_44 : decode cX11_gap 44 = .ok (.ifCond .ne 49, 3) := by decide +kernel
theorem dX11_gap_47 : decode cX11_gap 47 = .ok (.iload_n 1, 1) := by decide +kernel
theorem dX11_gap_48 : decode cX11_gap 48 = .ok (.ifCond .eq 18, 3) := by decide +kernel
theorem dX11_gap_51 : decode cX11_gap 51 = .ok (.aload_n 0, 1) := by decide +kernel
theorem dX11_gap_52 : decode cX11_gap 52 = .ok (.getfield 19, 3) := by decide +kernel
theorem dX11_gap_55 : decode cX11_gap 55 = .ok (.iconst 4, 1) := by decide +kernel
theorem dX11_gap_56 : decode cX11_gap 56 = .ok (.iload_n 1, 1) := by decide +kernel
theorem dX11_gap_57 : decode cX11_gap 57 = .ok (.iadd, 1) := by decide +kernel
theorem dX11_gap_58 : decode cX11_gap 58 = .ok (.iconst 1, 1) := by decide +kernel
theorem dX11_gap_59 : decode cX11_gap 59 = .ok (.isub, 1) := by decide +kernel
theorem dX11_gap_60 : decode cX11_gap 60 = .ok (.iaload, 1) := by decide +kernel
theorem dX11_gap_61 : decode cX11_gap 61 = .ok (.iload 4, 2) := by decide +kernel
theorem dX11_gap_63 : decode cX11_gap 63 = .ok (.if_icmp .ge 30, 3) := by decide +kernel
theorem dX11_gap_66 : decode cX11_gap 66 = .ok (.iload_n 1, 1) := by decide +kernel
theorem dX11_gap_67 : decode cX11_gap 67 = .ok (.aload_n 0, 1) := by decide +kernel
theorem dX11_gap_68 : decode cX11_gap 68 = .ok (.getfield 19, 3) := by decide +kernel
theorem dX11_gap_71 : decode cX11_gap 71 = .ok (.iconst 2, 1) := by decide +kernel
theorem dX11_gap_72 : decode cX11_gap 72 = .ok (.iaload, 1) := by decide +kernel
theorem dX11_gap_73 : decode cX11_gap 73 = .ok (.if_icmp .eq 16, 3) := by decide +kernel
theorem dX11_gap_76 : decode cX11_gap 76 = .ok (.iload 4, 2) := by decide +kernel
theorem dX11_gap_78 : decode cX11_gap 78 = .ok (.aload_n 0, 1) := by decide +kernel
theorem dX11_gap_79 : decode cX11_gap 79 = .ok (.getfield 19, 3) := by decide +kernel
theorem dX11_gap_82 : decode cX11_gap 82 = .ok (.iconst 4, 1) := by decide +kernel
theorem dX11_gap_83 : decode cX11_gap 83 = .ok (.iload_n 1, 1) := by decide +kernel
theorem dX11_gap_84 : decode cX11_gap 84 = .ok (.iadd, 1) := by decide +kernel
theorem dX11_gap_85 : decode cX11_gap 85 = .ok (.iaload, 1) := by decide +kernel
theorem dX11_gap_86 : decode cX11_gap 86 = .ok (.if_icmp .ge 7, 3) := by decide +kernel
theorem dX11_gap_89 : decode cX11_gap 89 = .ok (.iconst 1, 1) := by decide +kernel
theorem dX11_gap_90 : decode cX11_gap 90 = .ok (.goto 4, 3) := by decide +kernel
theorem dX11_gap_93 : decode cX11_gap 93 = .ok (.iconst 0, 1) := by decide +kernel
theorem dX11_gap_94 : decode cX11_gap 94 = .ok (.istore 5, 2) := by decide +kernel
theorem dX11_gap_96 : decode cX11_gap 96 = .ok (.iload_n 2, 1) := by decide +kernel
theorem dX11_gap_97 : decode cX11_gap 97 = .ok (.iload 5, 2) := by decide +kernel
theorem dX11_gap_99 : decode cX11_gap 99 = .ok (.ifCond .eq 10, 3) := by decide +kernel
theorem dX11_gap_102 : decode cX11_gap 102 = .ok (.iconst 1, 1) := by decide +kernel
theorem dX11_gap_103 : decode cX11_gap 103 = .ok (.iload 4, 2) := by decide +kernel
theorem dX11_gap_105 : decode cX11_gap 105 = .ok (.ishl, 1) := by decide +kernel
theorem dX11_gap_106 : decode cX11_gap 106 = .ok (.goto 4, 3) := by decide +kernel
theorem dX11_gap_109 : decode cX11_gap 109 = .ok (.iconst 0, 1) := by decide +kernel
theorem dX11_gap_110 : decode cX11_gap 110 = .ok (.ior, 1) := by decide +kernel
theorem dX11_gap_111 : decode cX11_gap 111 = .ok (.istore_n 2, 1) := by decide +kernel
theorem dX11_gap_112 : decode cX11_gap 112 = .ok (.iinc 4 1, 3) := by decide +kernel
theorem dX11_gap_115 : decode cX11_gap 115 = .ok (.goto (-88), 3) := by decide +kernel
theorem dX11_gap_118 : decode cX11_gap 118 = .ok (.iload_n 2, 1) := by decide +kernel
theorem dX11_gap_119 : decode cX11_gap 119 = .ok (.ireturn, 1) := by decide +kernel
theorem dX11_heavyAt_0 : decode cX11_heavyAt 0 = .ok (.aload_n 0, 1) := by decide +kernel
theorem dX11_heavyAt_1 : decode cX11_heavyAt 1 = .ok (.getfield 13, 3) := by decide +kernel
theorem dX11_heavyAt_4 : decode cX11_heavyAt 4 = .ok (.bipush 12, 2) := by decide +kernel
theorem dX11_heavyAt_6 : decode cX11_heavyAt 6 = .ok (.aload_n 0, 1) := by decide +kernel
theorem dX11_heavyAt_7 : decode cX11_heavyAt 7 = .ok (.getfield 19, 3) := by decide +kernel
theorem dX11_heavyAt_10 : decode cX11_heavyAt 10 = .ok (.iconst 4, 1) := by decide +kernel
theorem dX11_heavyAt_11 : decode cX11_heavyAt 11 = .ok (.iload_n 1, 1) := by decide +kernel
theorem dX11_heavyAt_12 : decode cX11_heavyAt 12 = .ok (.iadd, 1) := by decide +kernel
theorem dX11_heavyAt_13 : decode cX11_heavyAt 13 = .ok (.iaload, 1) := by decide +kernel
theorem dX11_heavyAt_14 : decode cX11_heavyAt 14 = .ok (.iadd, 1) := by decide +kernel
theorem dX11_heavyAt_15 : decode cX11_heavyAt 15 = .ok (.iaload, 1) := by decide +kernel
theorem dX11_heavyAt_16 : decode cX11_heavyAt 16 = .ok (.ireturn, 1) := by decide +kernel
theorem dX11_moreOf_0 : decode cX11_moreOf 0 = .ok (.iload_n 1, 1) := by decide +kernel
theorem dX11_moreOf_1 : decode cX11_moreOf 1 = .ok (.iload_n 2, 1) := by decide +kernel
theorem dX11_moreOf_2 : decode cX11_moreOf 2 = .ok (.if_icmp .le 7, 3) := by decide +kernel
theorem dX11_moreOf_5 : decode cX11_moreOf 5 = .ok (.iconst 0, 1) := by decide +kernel
theorem dX11_moreOf_6 : decode cX11_moreOf 6 = .ok (.goto 14, 3) := by decide +kernel
theorem dX11_moreOf_9 : decode cX11_moreOf 9 = .ok (.aload_n 0, 1) := by decide +kernel
theorem dX11_moreOf_10 : decode cX11_moreOf 10 = .ok (.getfield 64, 3) := by decide +kernel
theorem dX11_moreOf_13 : decode cX11_moreOf 13 = .ok (.bipush 8, 2) := by decide +kernel
theorem dX11_moreOf_15 : decode cX11_moreOf 15 = .ok (.iload_n 1, 1) := by decide +kernel
theorem dX11_moreOf_16 : decode cX11_moreOf 16 = .ok (.imul, 1) := by decide +kernel
theorem dX11_moreOf_17 : decode cX11_moreOf 17 = .ok (.iload_n 2, 1) := by decide +kernel
theorem dX11_moreOf_18 : decode cX11_moreOf 18 = .ok (.iadd, 1) := by decide +kernel
theorem dX11_moreOf_19 : decode cX11_moreOf 19 = .ok (.iaload, 1) := by decide +kernel
theorem dX11_moreOf_20 : decode cX11_moreOf 20 = .ok (.ireturn, 1) := by decide +kernel
theorem dX11_ends__0 : decode cX11_ends_ 0 = .ok (.iload_n 1, 1) := by decide +kernel
theorem dX11_ends__1 : decode cX11_ends_ 1 = .ok (.iconst 0, 1) := by decide +kernel
theorem dX11_ends__2 : decode cX11_ends_ 2 = .ok (.iconst 1, 1) := by decide +kernel
theorem dX11_ends__3 : decode cX11_ends_ 3 = .ok (.invokestatic 67, 3) := by decide +kernel
theorem dX11_ends__6 : decode cX11_ends_ 6 = .ok (.ifCond .ne 6, 3) := by decide +kernel
theorem dX11_ends__9 : decode cX11_ends_ 9 = .ok (.ldc 71, 2) := by decide +kernel
theorem dX11_ends__11 : decode cX11_ends_ 11 = .ok (.ireturn, 1) := by decide +kernel
theorem dX11_ends__12 : decode cX11_ends_ 12 = .ok (.aload_n 0, 1) := by decide +kernel
theorem dX11_ends__13 : decode cX11_ends_ 13 = .ok (.getfield 19, 3) := by decide +kernel
theorem dX11_ends__16 : decode cX11_ends_ 16 = .ok (.iconst 2, 1) := by decide +kernel
theorem dX11_ends__17 : decode cX11_ends_ 17 = .ok (.iaload, 1) := by decide +kernel
theorem dX11_ends__18 : decode cX11_ends_ 18 = .ok (.istore_n 2, 1) := by decide +kernel
theorem dX11_ends__19 : decode cX11_ends_ 19 = .ok (.iconst 1, 1) := by decide +kernel
theorem dX11_ends__20 : decode cX11_ends_ 20 = .ok (.istore_n 3, 1) := by decide +kernel
theorem dX11_ends__21 : decode cX11_ends_ 21 = .ok (.iload_n 3, 1) := by decide +kernel
theorem dX11_ends__22 : decode cX11_ends_ 22 = .ok (.iload_n 2, 1) := by decide +kernel
theorem dX11_ends__23 : decode cX11_ends_ 23 = .ok (.if_icmp .gt 99, 3) := by decide +kernel
theorem dX11_ends__26 : decode cX11_ends_ 26 = .ok (.iconst 0, 1) := by decide +kernel
theorem dX11_ends__27 : decode cX11_ends_ 27 = .ok (.istore 4, 2) := by decide +kernel
theorem dX11_ends__29 : decode cX11_ends_ 29 = .ok (.iload 4, 2) := by decide +kernel
theorem dX11_ends__31 : decode cX11_ends_ 31 = .ok (.iload_n 3, 1) := by decide +kernel
theorem dX11_ends__32 : decode cX11_ends_ 32 = .ok (.iadd, 1) := by decide +kernel
theorem dX11_ends__33 : decode cX11_ends_ 33 = .ok (.iload_n 2, 1) := by decide +kernel
theorem dX11_ends__34 : decode cX11_ends_ 34 = .ok (.if_icmp .gt 82, 3) := by decide +kernel
theorem dX11_ends__37 : decode cX11_ends_ 37 = .ok (.iload 4, 2) := by decide +kernel
theorem dX11_ends__39 : decode cX11_ends_ 39 = .ok (.iload_n 3, 1) := by decide +kernel
theorem dX11_ends__40 : decode cX11_ends_ 40 = .ok (.iadd, 1) := by decide +kernel
theorem dX11_ends__41 : decode cX11_ends_ 41 = .ok (.iconst 1, 1) := by decide +kernel
theorem dX11_ends__42 : decode cX11_ends_ 42 = .ok (.isub, 1) := by decide +kernel
theorem dX11_ends__43 : decode cX11_ends_ 43 = .ok (.istore 5, 2) := by decide +kernel
theorem dX11_ends__45 : decode cX11_ends_ 45 = .ok (.aload_n 0, 1) := by decide +kernel
theorem dX11_ends__46 : decode cX11_ends_ 46 = .ok (.iload 4, 2) := by decide +kernel
theorem dX11_ends__48 : decode cX11_ends_ 48 = .ok (.invokevirtual 219, 3) := by decide +kernel
theorem dX11_ends__51 : decode cX11_ends_ 51 = .ok (.aload_n 0, 1) := by decide +kernel
theorem dX11_ends__52 : decode cX11_ends_ 52 = .ok (.iload 4, 2) := by decide +kernel
theorem dX11_ends__54 : decode cX11_ends_ 54 = .ok (.iconst 1, 1) := by decide +kernel
theorem dX11_ends__55 : decode cX11_ends_ 55 = .ok (.iadd, 1) := by decide +kernel
theorem dX11_ends__56 : decode cX11_ends_ 56 = .ok (.iload 5, 2) := by decide +kernel
theorem dX11_ends__58 : decode cX11_ends_ 58 = .ok (.invokevirtual 222, 3) := by decide +kernel
theorem dX11_ends__61 : decode cX11_ends_ 61 = .ok (.isub, 1) := by decide +kernel
theorem dX11_ends__62 : decode cX11_ends_ 62 = .ok (.istore 6, 2) := by decide +kernel
theorem dX11_ends__64 : decode cX11_ends_ 64 = .ok (.aload_n 0, 1) := by decide +kernel
theorem dX11_ends__65 : decode cX11_ends_ 65 = .ok (.iload 5, 2) := by decide +kernel
theorem dX11_ends__67 : decode cX11_ends_ 67 = .ok (.invokevirtual 219, 3) := by decide +kernel
theorem dX11_ends__70 : decode cX11_ends_ 70 = .ok (.aload_n 0, 1) := by decide +kernel
theorem dX11_ends__71 : decode cX11_ends_ 71 = .ok (.iload 4, 2) := by decide +kernel
theorem dX11_ends__73 : decode cX11_ends_ 73 = .ok (.iload 5, 2) := by decide +kernel
theorem dX11_ends__75 : decode cX11_ends_ 75 = .ok (.iconst 1, 1) := by decide +kernel
theorem dX11_ends__76 : decode cX11_ends_ 76 = .ok (.isub, 1) := by decide +kernel
theorem dX11_ends__77 : decode cX11_ends_ 77 = .ok (.invokevirtual 222, 3) := by decide +kernel
theorem dX11_ends__80 : decode cX11_ends_ 80 = .ok (.isub, 1) := by decide +kernel
theorem dX11_ends__81 : decode cX11_ends_ 81 = .ok (.istore 7, 2) := by decide +kernel
theorem dX11_ends__83 : decode cX11_ends_ 83 = .ok (.aload_n 0, 1) := by decide +kernel
theorem dX11_ends__84 : decode cX11_ends_ 84 = .ok (.getfield 64, 3) := by decide +kernel
theorem dX11_ends__87 : decode cX11_ends_ 87 = .ok (.bipush 8, 2) := by decide +kernel
theorem dX11_ends__89 : decode cX11_ends_ 89 = .ok (.iload 4, 2) := by decide +kernel
theorem dX11_ends__91 : decode cX11_ends_ 91 = .ok (.imul, 1) := by decide +kernel
theorem dX11_ends__92 : decode cX11_ends_ 92 = .ok (.iload 5, 2) := by decide +kernel
theorem dX11_ends__94 : decode cX11_ends_ 94 = .ok (.iadd, 1) := by decide +kernel
theorem dX11_ends__95 : decode cX11_ends_ 95 = .ok (.iload 6, 2) := by decide +kernel
theorem dX11_ends__97 : decode cX11_ends_ 97 = .ok (.iload 7, 2) := by decide +kernel
theorem dX11_ends__99 : decode cX11_ends_ 99 = .ok (.if_icmp .ge 8, 3) := by decide +kernel
theorem dX11_ends__102 : decode cX11_ends_ 102 = .ok (.iload 7, 2) := by decide +kernel
theorem dX11_ends__104 : decode cX11_ends_ 104 = .ok (.goto 5, 3) := by decide +kernel
theorem dX11_ends__107 : decode cX11_ends_ 107 = .ok (.iload 6, 2) := by decide +kernel
theorem dX11_ends__109 : decode cX11_ends_ 109 = .ok (.iastore, 1) := by decide +kernel
theorem dX11_ends__110 : decode cX11_ends_ 110 = .ok (.iinc 4 1, 3) := by decide +kernel
theorem dX11_ends__113 : decode cX11_ends_ 113 = .ok (.goto (-84), 3) := by decide +kernel
theorem dX11_ends__116 : decode cX11_ends_ 116 = .ok (.iinc 3 1, 3) := by decide +kernel
theorem dX11_ends__119 : decode cX11_ends_ 119 = .ok (.goto (-98), 3) := by decide +kernel
theorem dX11_ends__122 : decode cX11_ends_ 122 = .ok (.iload_n 1, 1) := by decide +kernel
theorem dX11_ends__123 : decode cX11_ends_ 123 = .ok (.ifCond .ne 24, 3) := by decide +kernel
theorem dX11_ends__126 : decode cX11_ends_ 126 = .ok (.sipush 1000, 3) := by decide +kernel
theorem dX11_ends__129 : decode cX11_ends_ 129 = .ok (.iload_n 2, 1) := by decide +kernel
theorem dX11_ends__130 : decode cX11_ends_ 130 = .ok (.ifCond .ne 7, 3) := by decide +kernel
theorem dX11_ends__133 : decode cX11_ends_ 133 = .ok (.iconst 0, 1) := by decide +kernel
theorem dX11_ends__134 : decode cX11_ends_ 134 = .ok (.goto 11, 3) := by decide +kernel
theorem dX11_ends__137 : decode cX11_ends_ 137 = .ok (.aload_n 0, 1) := by decide +kernel
theorem dX11_ends__138 : decode cX11_ends_ 138 = .ok (.getfield 64, 3) := by decide +kernel
theorem dX11_ends__141 : decode cX11_ends_ 141 = .ok (.iload_n 2, 1) := by decide +kernel
theorem dX11_ends__142 : decode cX11_ends_ 142 = .ok (.iconst 1, 1) := by decide +kernel
theorem dX11_ends__143 : decode cX11_ends_ 143 = .ok (.isub, 1) := by decide +kernel
theorem dX11_ends__144 : decode cX11_ends_ 144 = .ok (.iaload, 1) := by decide +kernel
theorem dX11_ends__145 : decode cX11_ends_ 145 = .ok (.iadd, 1) := by decide +kernel
theorem dX11_ends__146 : decode cX11_ends_ 146 = .ok (.ireturn, 1) := by decide +kernel
theorem dX11_ends__147 : decode cX11_ends_ 147 = .ok (.iload_n 2, 1) := by decide +kernel
theorem dX11_ends__148 : decode cX11_ends_ 148 = .ok (.ifCond .ne 7, 3) := by decide +kernel
theorem dX11_ends__151 : decode cX11_ends_ 151 = .ok (.iconst (-1), 1) := by decide +kernel
theorem dX11_ends__152 : decode cX11_ends_ 152 = .ok (.goto 33, 3) := by decide +kernel
theorem dX11_ends__155 : decode cX11_ends_ 155 = .ok (.aload_n 0, 1) := by decide +kernel
theorem dX11_ends__156 : decode cX11_ends_ 156 = .ok (.iconst 0, 1) := by decide +kernel
theorem dX11_ends__157 : decode cX11_ends_ 157 = .ok (.invokevirtual 219, 3) := by decide +kernel
theorem dX11_ends__160 : decode cX11_ends_ 160 = .ok (.aload_n 0, 1) := by decide +kernel
theorem dX11_ends__161 : decode cX11_ends_ 161 = .ok (.iconst 1, 1) := by decide +kernel
theorem dX11_ends__162 : decode cX11_ends_ 162 = .ok (.iload_n 2, 1) := by decide +kernel
theorem dX11_ends__163 : decode cX11_ends_ 163 = .ok (.iconst 1, 1) := by decide +kernel
theorem dX11_ends__164 : decode cX11_ends_ 164 = .ok (.isub, 1) := by decide +kernel
theorem dX11_ends__165 : decode cX11_ends_ 165 = .ok (.invokevirtual 222, 3) := by decide +kernel
theorem dX11_ends__168 : decode cX11_ends_ 168 = .ok (.isub, 1) := by decide +kernel
theorem dX11_ends__169 : decode cX11_ends_ 169 = .ok (.aload_n 0, 1) := by decide +kernel
theorem dX11_ends__170 : decode cX11_ends_ 170 = .ok (.getfield 64, 3) := by decide +kernel
theorem dX11_ends__173 : decode cX11_ends_ 173 = .ok (.iload_n 2, 1) := by decide +kernel
theorem dX11_ends__174 : decode cX11_ends_ 174 = .ok (.iconst 1, 1) := by decide +kernel
theorem dX11_ends__175 : decode cX11_ends_ 175 = .ok (.isub, 1) := by decide +kernel
theorem dX11_ends__176 : decode cX11_ends_ 176 = .ok (.iaload, 1) := by decide +kernel
theorem dX11_ends__177 : decode cX11_ends_ 177 = .ok (.if_icmp .ne 7, 3) := by decide +kernel
theorem dX11_ends__180 : decode cX11_ends_ 180 = .ok (.iconst 0, 1) := by decide +kernel
theorem dX11_ends__181 : decode cX11_ends_ 181 = .ok (.goto 4, 3) := by decide +kernel
theorem dX11_ends__184 : decode cX11_ends_ 184 = .ok (.iconst 1, 1) := by decide +kernel
theorem dX11_ends__185 : decode cX11_ends_ 185 = .ok (.ireturn, 1) := by decide +kernel
theorem dX11_calm_0 : decode cX11_calm 0 = .ok (.iload_n 1, 1) := by decide +kernel
theorem dX11_calm_1 : decode cX11_calm 1 = .ok (.iconst 0, 1) := by decide +kernel
theorem dX11_calm_2 : decode cX11_calm 2 = .ok (.bipush 60, 2) := by decide +kernel
theorem dX11_calm_4 : decode cX11_calm 4 = .ok (.invokestatic 67, 3) := by decide +kernel
theorem dX11_calm_7 : decode cX11_calm 7 = .ok (.ifCond .eq 13, 3) := by decide +kernel
theorem dX11_calm_10 : decode cX11_calm 10 = .ok (.iload_n 2, 1) := by decide +kernel
theorem dX11_calm_11 : decode cX11_calm 11 = .ok (.iconst 0, 1) := by decide +kernel
theorem dX11_calm_12 : decode cX11_calm 12 = .ok (.bipush 100, 2) := by decide +kernel
theorem dX11_calm_14 : decode cX11_calm 14 = .ok (.invokestatic 67, 3) := by decide +kernel
theorem dX11_calm_17 : decode cX11_calm 17 = .ok (.ifCond .ne 6, 3) := by decide +kernel
theorem dX11_calm_20 : decode cX11_calm 20 = .ok (.ldc 71, 2) := by decide +kernel
theorem dX11_calm_22 : decode cX11_calm 22 = .ok (.ireturn, 1) := by decide +kernel
theorem dX11_calm_23 : decode cX11_calm 23 = .ok (.ldc2_w 225, 3) := by decide +kernel
theorem dX11_calm_26 : decode cX11_calm 26 = .ok (.lstore_n 3, 1) := by decide +kernel
theorem dX11_calm_27 : decode cX11_calm 27 = .ok (.iconst 0, 1) := by decide +kernel
theorem dX11_calm_28 : decode cX11_calm 28 = .ok (.istore 5, 2) := by decide +kernel
theorem dX11_calm_30 : decode cX11_calm 30 = .ok (.iload 5, 2) := by decide +kernel
theorem dX11_calm_32 : decode cX11_calm 32 = .ok (.iload_n 1, 1) := by decide +kernel
theorem dX11_calm_33 : decode cX11_calm 33 = .ok (.if_icmp .ge 18, 3) := by decide +kernel
theorem dX11_calm_36 : decode cX11_calm 36 = .ok (.lload_n 3, 1) := by decide +kernel
theorem dX11_calm_37 : decode cX11_calm 37 = .ok (.iload_n 2, 1) := by decide +kernel
theorem dX11_calm_38 : decode cX11_calm 38 = .ok (.i2l, 1) := by decide +kernel
theorem dX11_calm_39 : decode cX11_calm 39 = .ok (.lmul, 1) := by decide +kernel
theorem dX11_calm_40 : decode cX11_calm 40 = .ok (.ldc2_w 227, 3) := by decide +kernel
theorem dX11_calm_43 : decode cX11_calm 43 = .ok (.ldiv, 1) := by decide +kernel
theorem dX11_calm_44 : decode cX11_calm 44 = .ok (.lstore_n 3, 1) := by decide +kernel
theorem dX11_calm_45 : decode cX11_calm 45 = .ok (.iinc 5 1, 3) := by decide +kernel
theorem dX11_calm_48 : decode cX11_calm 48 = .ok (.goto (-18), 3) := by decide +kernel
theorem dX11_calm_51 : decode cX11_calm 51 = .ok (.lload_n 3, 1) := by decide +kernel
theorem dX11_calm_52 : decode cX11_calm 52 = .ok (.l2i, 1) := by decide +kernel
theorem dX11_calm_53 : decode cX11_calm 53 = .ok (.ireturn, 1) := by decide +kernel
theorem dX11_old_0 : decode cX11_old 0 = .ok (.iload_n 1, 1) := by decide +kernel
theorem dX11_old_1 : decode cX11_old 1 = .ok (.iconst 0, 1) := by decide +kernel
theorem dX11_old_2 : decode cX11_old 2 = .ok (.iconst 1, 1) := by decide +kernel
theorem dX11_old_3 : decode cX11_old 3 = .ok (.invokestatic 67, 3) := by decide +kernel
theorem dX11_old_6 : decode cX11_old 6 = .ok (.ifCond .eq 29, 3) := by decide +kernel
theorem dX11_old_9 : decode cX11_old 9 = .ok (.iload_n 2, 1) := by decide +kernel
theorem dX11_old_10 : decode cX11_old 10 = .ok (.iload_n 1, 1) := by decide +kernel
theorem dX11_old_11 : decode cX11_old 11 = .ok (.ifCond .ne 7, 3) := by decide +kernel
theorem dX11_old_14 : decode cX11_old 14 = .ok (.iconst 0, 1) := by decide +kernel
theorem dX11_old_15 : decode cX11_old 15 = .ok (.goto 4, 3) := by decide +kernel
theorem dX11_old_18 : decode cX11_old 18 = .ok (.iconst 1, 1) := by decide +kernel
theorem dX11_old_19 : decode cX11_old 19 = .ok (.iload_n 1, 1) := by decide +kernel
theorem dX11_old_20 : decode cX11_old 20 = .ok (.ifCond .ne 7, 3) := by decide +kernel
theorem dX11_old_23 : decode cX11_old 23 = .ok (.iconst 5, 1) := by decide +kernel
theorem dX11_old_24 : decode cX11_old 24 = .ok (.goto 5, 3) := by decide +kernel
theorem dX11_old_27 : decode cX11_old 27 = .ok (.bipush 9, 2) := by decide +kernel
theorem dX11_old_29 : decode cX11_old 29 = .ok (.invokestatic 67, 3) := by decide +kernel
theorem dX11_old_32 : decode cX11_old 32 = .ok (.ifCond .ne 6, 3) := by decide +kernel
theorem dX11_old_35 : decode cX11_old 35 = .ok (.ldc 71, 2) := by decide +kernel
theorem dX11_old_37 : decode cX11_old 37 = .ok (.ireturn, 1) := by decide +kernel
theorem dX11_old_38 : decode cX11_old 38 = .ok (.aload_n 0, 1) := by decide +kernel
theorem dX11_old_39 : decode cX11_old 39 = .ok (.getfield 112, 3) := by decide +kernel
theorem dX11_old_42 : decode cX11_old 42 = .ok (.bipush 6, 2) := by decide +kernel
theorem dX11_old_44 : decode cX11_old 44 = .ok (.if_icmp .ne 6, 3) := by decide +kernel
theorem dX11_old_47 : decode cX11_old 47 = .ok (.ldc 75, 2) := by decide +kernel
theorem dX11_old_49 : decode cX11_old 49 = .ok (.ireturn, 1) := by decide +kernel
theorem dX11_old_50 : decode cX11_old 50 = .ok (.aload_n 0, 1) := by decide +kernel
theorem dX11_old_51 : decode cX11_old 51 = .ok (.getfield 32, 3) := by decide +kernel
theorem dX11_old_54 : decode cX11_old 54 = .ok (.iconst 3, 1) := by decide +kernel
theorem dX11_old_55 : decode cX11_old 55 = .ok (.aload_n 0, 1) := by decide +kernel
theorem dX11_old_56 : decode cX11_old 56 = .ok (.getfield 112, 3) := by decide +kernel
theorem dX11_old_59 : decode cX11_old 59 = .ok (.imul, 1) := by decide +kernel
theorem dX11_old_60 : decode cX11_old 60 = .ok (.iload_n 1, 1) := by decide +kernel
theorem dX11_old_61 : decode cX11_old 61 = .ok (.iastore, 1) := by decide +kernel
theorem dX11_old_62 : decode cX11_old 62 = .ok (.aload_n 0, 1) := by decide +kernel
theorem dX11_old_63 : decode cX11_old 63 = .ok (.getfield 32, 3) := by decide +kernel
theorem dX11_old_66 : decode cX11_old 66 = .ok (.iconst 3, 1) := by decide +kernel
theorem dX11_old_67 : decode cX11_old 67 = .ok (.aload_n 0, 1) := by decide +kernel
theorem dX11_old_68 : decode cX11_old 68 = .ok (.getfield 112, 3) := by decide +kernel
theorem dX11_old_71 : decode cX11_old 71 = .ok (.imul, 1) := by decide +kernel
theorem dX11_old_72 : decode cX11_old 72 = .ok (.iconst 1, 1) := by decide +kernel
theorem dX11_old_73 : decode cX11_old 73 = .ok (.iadd, 1) := by decide +kernel
theorem dX11_old_74 : decode cX11_old 74 = .ok (.iload_n 2, 1) := by decide +kernel
theorem dX11_old_75 : decode cX11_old 75 = .ok (.iastore, 1) := by decide +kernel
theorem dX11_old_76 : decode cX11_old 76 = .ok (.aload_n 0, 1) := by decide +kernel
theorem dX11_old_77 : decode cX11_old 77 = .ok (.getfield 32, 3) := by decide +kernel
theorem dX11_old_80 : decode cX11_old 80 = .ok (.iconst 3, 1) := by decide +kernel
theorem dX11_old_81 : decode cX11_old 81 = .ok (.aload_n 0, 1) := by decide +kernel
theorem dX11_old_82 : decode cX11_old 82 = .ok (.getfield 112, 3) := by decide +kernel
theorem dX11_old_85 : decode cX11_old 85 = .ok (.imul, 1) := by decide +kernel
theorem dX11_old_86 : decode cX11_old 86 = .ok (.iconst 2, 1) := by decide +kernel
theorem dX11_old_87 : decode cX11_old 87 = .ok (.iadd, 1) := by decide +kernel
theorem dX11_old_88 : decode cX11_old 88 = .ok (.iload_n 3, 1) := by decide +kernel
theorem dX11_old_89 : decode cX11_old 89 = .ok (.ifCond .eq 7, 3) := by decide +kernel
theorem dX11_old_92 : decode cX11_old 92 = .ok (.iconst 1, 1) := by decide +kernel
theorem dX11_old_93 : decode cX11_old 93 = .ok (.goto 4, 3) := by decide +kernel
theorem dX11_old_96 : decode cX11_old 96 = .ok (.iconst 0, 1) := by decide +kernel
theorem dX11_old_97 : decode cX11_old 97 = .ok (.iastore, 1) := by decide +kernel
theorem dX11_old_98 : decode cX11_old 98 = .ok (.aload_n 0, 1) := by decide +kernel
theorem dX11_old_99 : decode cX11_old 99 = .ok (.dup, 1) := by decide +kernel
theorem dX11_old_100 : decode cX11_old 100 = .ok (.getfield 112, 3) := by decide +kernel
theorem dX11_old_103 : decode cX11_old 103 = .ok (.iconst 1, 1) := by decide +kernel
theorem dX11_old_104 : decode cX11_old 104 = .ok (.iadd, 1) := by decide +kernel
theorem dX11_old_105 : decode cX11_old 105 = .ok (.putfield 112, 3) := by decide +kernel
theorem dX11_old_108 : decode cX11_old 108 = .ok (.aload_n 0, 1) := by decide +kernel
theorem dX11_old_109 : decode cX11_old 109 = .ok (.getfield 112, 3) := by decide +kernel
theorem dX11_old_112 : decode cX11_old 112 = .ok (.ireturn, 1) := by decide +kernel
theorem dX11_isSo_0 : decode cX11_isSo 0 = .ok (.aload_n 0, 1) := by decide +kernel
theorem dX11_isSo_1 : decode cX11_isSo 1 = .ok (.getfield 13, 3) := by decide +kernel
theorem dX11_isSo_4 : decode cX11_isSo 4 = .ok (.iload_n 2, 1) := by decide +kernel
theorem dX11_isSo_5 : decode cX11_isSo 5 = .ok (.ifCond .ne 7, 3) := by decide +kernel
theorem dX11_isSo_8 : decode cX11_isSo 8 = .ok (.iconst 5, 1) := by decide +kernel
theorem dX11_isSo_9 : decode cX11_isSo 9 = .ok (.goto 5, 3) := by decide +kernel
theorem dX11_isSo_12 : decode cX11_isSo 12 = .ok (.bipush 12, 2) := by decide +kernel
theorem dX11_isSo_14 : decode cX11_isSo 14 = .ok (.iload_n 1, 1) := by decide +kernel
theorem dX11_isSo_15 : decode cX11_isSo 15 = .ok (.iadd, 1) := by decide +kernel
theorem dX11_isSo_16 : decode cX11_isSo 16 = .ok (.iaload, 1) := by decide +kernel
theorem dX11_isSo_17 : decode cX11_isSo 17 = .ok (.iload_n 3, 1) := by decide +kernel
theorem dX11_isSo_18 : decode cX11_isSo 18 = .ok (.if_icmp .ne 7, 3) := by decide +kernel
theorem dX11_isSo_21 : decode cX11_isSo 21 = .ok (.iconst 1, 1) := by decide +kernel
theorem dX11_isSo_22 : decode cX11_isSo 22 = .ok (.goto 4, 3) := by decide +kernel
theorem dX11_isSo_25 : decode cX11_isSo 25 = .ok (.iconst 0, 1) := by decide +kernel
theorem dX11_isSo_26 : decode cX11_isSo 26 = .ok (.ireturn, 1) := by decide +kernel
theorem dX11_could_0 : decode cX11_could 0 = .ok (.iconst 0, 1) := by decide +kernel
theorem dX11_could_1 : decode cX11_could 1 = .ok (.istore_n 1, 1) := by decide +kernel
theorem dX11_could_2 : decode cX11_could 2 = .ok (.iconst 0, 1) := by decide +kernel
theorem dX11_could_3 : decode cX11_could 3 = .ok (.istore_n 2, 1) := by decide +kernel
theorem dX11_could_4 : decode cX11_could 4 = .ok (.iload_n 2, 1) := by decide +kernel
theorem dX11_could_5 : decode cX11_could 5 = .ok (.aload_n 0, 1) := by decide +kernel
theorem dX11_could_6 : decode cX11_could 6 = .ok (.getfield 13, 3) := by decide +kernel
theorem dX11_could_9 : decode cX11_could 9 = .ok (.iconst 1, 1) := by decide +kernel
theorem dX11_could_10 : decode cX11_could 10 = .ok (.iaload, 1) := by decide +kernel
theorem dX11_could_11 : decode cX11_could 11 = .ok (.if_icmp .ge 114, 3) := by decide +kernel
theorem dX11_could_14 : decode cX11_could 14 = .ok (.aload_n 0, 1) := by decide +kernel
theorem dX11_could_15 : decode cX11_could 15 = .ok (.iload_n 2, 1) := by decide +kernel
theorem dX11_could_16 : decode cX11_could 16 = .ok (.invokevirtual 157, 3) := by decide +kernel
theorem dX11_could_19 : decode cX11_could 19 = .ok (.iconst (-1), 1) := by decide +kernel
theorem dX11_could_20 : decode cX11_could 20 = .ok (.if_icmp .ne 7, 3) := by decide +kernel
theorem dX11_could_23 : decode cX11_could 23 = .ok (.iconst 1, 1) := by decide +kernel
theorem dX11_could_24 : decode cX11_could 24 = .ok (.goto 4, 3) := by decide +kernel
theorem dX11_could_27 : decode cX11_could 27 = .ok (.iconst 0, 1) := by decide +kernel
theorem dX11_could_28 : decode cX11_could 28 = .ok (.istore_n 3, 1) := by decide +kernel
theorem dX11_could_29 : decode cX11_could 29 = .ok (.iconst 0, 1) := by decide +kernel
theorem dX11_could_30 : decode cX11_could 30 = .ok (.istore 4, 2) := by decide +kernel
theorem dX11_could_32 : decode cX11_could 32 = .ok (.iload 4, 2) := by decide +kernel
theorem dX11_could_34 : decode cX11_could 34 = .ok (.aload_n 0, 1) := by decide +kernel
theorem dX11_could_35 : decode cX11_could 35 = .ok (.getfield 112, 3) := by decide +kernel
theorem dX11_could_38 : decode cX11_could 38 = .ok (.if_icmp .ge 67, 3) := by decide +kernel
theorem dX11_could_41 : decode cX11_could 41 = .ok (.iload_n 3, 1) := by decide +kernel
theorem dX11_could_42 : decode cX11_could 42 = .ok (.ifCond .eq 55, 3) := by decide +kernel
theorem dX11_could_45 : decode cX11_could 45 = .ok (.aload_n 0, 1) := by decide +kernel
theorem dX11_could_46 : decode cX11_could 46 = .ok (.iload_n 2, 1) := by decide +kernel
theorem dX11_could_47 : decode cX11_could 47 = .ok (.aload_n 0, 1) := by decide +kernel
theorem dX11_could_48 : decode cX11_could 48 = .ok (.getfield 32, 3) := by decide +kernel
theorem dX11_could_51 : decode cX11_could 51 = .ok (.iconst 3, 1) := by decide +kernel
theorem dX11_could_52 : decode cX11_could 52 = .ok (.iload 4, 2) := by decide +kernel
theorem dX11_could_54 : decode cX11_could 54 = .ok (.imul, 1) := by decide +kernel
theorem dX11_could_55 : decode cX11_could 55 = .ok (.iaload, 1) := by decide +kernel
theorem dX11_could_56 : decode cX11_could 56 = .ok (.aload_n 0, 1) := by decide +kernel
theorem dX11_could_57 : decode cX11_could 57 = .ok (.getfield 32, 3) := by decide +kernel
theorem dX11_could_60 : decode cX11_could 60 = .ok (.iconst 3, 1) := by decide +kernel
theorem dX11_could_61 : decode cX11_could 61 = .ok (.iload 4, 2) := by decide +kernel
theorem dX11_could_63 : decode cX11_could 63 = .ok (.imul, 1) := by decide +kernel
theorem dX11_could_64 : decode cX11_could 64 = .ok (.iconst 1, 1) := by decide +kernel
theorem dX11_could_65 : decode cX11_could 65 = .ok (.iadd, 1) := by decide +kernel
theorem dX11_could_66 : decode cX11_could 66 = .ok (.iaload, 1) := by decide +kernel
theorem dX11_could_67 : decode cX11_could 67 = .ok (.invokevirtual 229, 3) := by decide +kernel
theorem dX11_could_70 : decode cX11_could 70 = .ok (.aload_n 0, 1) := by decide +kernel
theorem dX11_could_71 : decode cX11_could 71 = .ok (.getfield 32, 3) := by decide +kernel
theorem dX11_could_74 : decode cX11_could 74 = .ok (.iconst 3, 1) := by decide +kernel
theorem dX11_could_75 : decode cX11_could 75 = .ok (.iload 4, 2) := by decide +kernel
theorem dX11_could_77 : decode cX11_could 77 = .ok (.imul, 1) := by decide +kernel
theorem dX11_could_78 : decode cX11_could 78 = .ok (.iconst 2, 1) := by decide +kernel
theorem dX11_could_79 : decode cX11_could 79 = .ok (.iadd, 1) := by decide +kernel
theorem dX11_could_80 : decode cX11_could 80 = .ok (.iaload, 1) := by decide +kernel
theorem dX11_could_81 : decode cX11_could 81 = .ok (.iconst 1, 1) := by decide +kernel
theorem dX11_could_82 : decode cX11_could 82 = .ok (.if_icmp .ne 7, 3) := by decide +kernel
theorem dX11_could_85 : decode cX11_could 85 = .ok (.iconst 1, 1) := by decide +kernel
theorem dX11_could_86 : decode cX11_could 86 = .ok (.goto 4, 3) := by decide +kernel
theorem dX11_could_89 : decode cX11_could 89 = .ok (.iconst 0, 1) := by decide +kernel
theorem dX11_could_90 : decode cX11_could 90 = .ok (.if_icmp .ne 7, 3) := by decide +kernel
theorem dX11_could_93 : decode cX11_could 93 = .ok (.iconst 1, 1) := by decide +kernel
theorem dX11_could_94 : decode cX11_could 94 = .ok (.goto 4, 3) := by decide +kernel
theorem dX11_could_97 : decode cX11_could 97 = .ok (.iconst 0, 1) := by decide +kernel
theorem dX11_could_98 : decode cX11_could 98 = .ok (.istore_n 3, 1) := by decide +kernel
theorem dX11_could_99 : decode cX11_could 99 = .ok (.iinc 4 1, 3) := by decide +kernel
theorem dX11_could_102 : decode cX11_could 102 = .ok (.goto (-70), 3) := by decide +kernel
theorem dX11_could_105 : decode cX11_could 105 = .ok (.iload_n 1, 1) := by decide +kernel
theorem dX11_could_106 : decode cX11_could 106 = .ok (.iload_n 3, 1) := by decide +kernel
theorem dX11_could_107 : decode cX11_could 107 = .ok (.ifCond .eq 9, 3) := by decide +kernel
theorem dX11_could_110 : decode cX11_could 110 = .ok (.iconst 1, 1) := by decide +kernel
theorem dX11_could_111 : decode cX11_could 111 = .ok (.iload_n 2, 1) := by decide +kernel
theorem dX11_could_112 : decode cX11_could 112 = .ok (.ishl, 1) := by decide +kernel
theorem dX11_could_113 : decode cX11_could 113 = .ok (.goto 4, 3) := by decide +kernel
theorem dX11_could_116 : decode cX11_could 116 = .ok (.iconst 0, 1) := by decide +kernel
theorem dX11_could_117 : decode cX11_could 117 = .ok (.ior, 1) := by decide +kernel
theorem dX11_could_118 : decode cX11_could 118 = .ok (.istore_n 1, 1) := by decide +kernel
theorem dX11_could_119 : decode cX11_could 119 = .ok (.iinc 2 1, 3) := by decide +kernel
theorem dX11_could_122 : decode cX11_could 122 = .ok (.goto (-118), 3) := by decide +kernel
theorem dX11_could_125 : decode cX11_could 125 = .ok (.iload_n 1, 1) := by decide +kernel
theorem dX11_could_126 : decode cX11_could 126 = .ok (.ireturn, 1) := by decide +kernel
theorem dX11_couldBe_0 : decode cX11_couldBe 0 = .ok (.aload_n 0, 1) := by decide +kernel
theorem dX11_couldBe_1 : decode cX11_couldBe 1 = .ok (.invokevirtual 232, 3) := by decide +kernel
theorem dX11_couldBe_4 : decode cX11_couldBe 4 = .ok (.ireturn, 1) := by decide +kernel
theorem dX11_next_0 : decode cX11_next 0 = .ok (.aload_n 0, 1) := by decide +kernel
theorem dX11_next_1 : decode cX11_next 1 = .ok (.invokevirtual 232, 3) := by decide +kernel
theorem dX11_next_4 : decode cX11_next 4 = .ok (.istore_n 1, 1) := by decide +kernel
theorem dX11_next_5 : decode cX11_next 5 = .ok (.iload_n 1, 1) := by decide +kernel
theorem dX11_next_6 : decode cX11_next 6 = .ok (.invokestatic 174, 3) := by decide +kernel
theorem dX11_next_9 : decode cX11_next 9 = .ok (.istore_n 2, 1) := by decide +kernel
theorem dX11_next_10 : decode cX11_next 10 = .ok (.iconst (-1), 1) := by decide +kernel
theorem dX11_next_11 : decode cX11_next 11 = .ok (.istore_n 3, 1) := by decide +kernel
theorem dX11_next_12 : decode cX11_next 12 = .ok (.iload_n 2, 1) := by decide +kernel
theorem dX11_next_13 : decode cX11_next 13 = .ok (.istore 4, 2) := by decide +kernel
theorem dX11_next_15 : decode cX11_next 15 = .ok (.iconst 0, 1) := by decide +kernel
theorem dX11_next_16 : decode cX11_next 16 = .ok (.istore 5, 2) := by decide +kernel
theorem dX11_next_18 : decode cX11_next 18 = .ok (.iload 5, 2) := by decide +kernel
theorem dX11_next_20 : decode cX11_next 20 = .ok (.bipush 20, 2) := by decide +kernel
theorem dX11_next_22 : decode cX11_next 22 = .ok (.if_icmp .ge 131, 3) := by decide +kernel
theorem dX11_next_25 : decode cX11_next 25 = .ok (.iload 5, 2) := by decide +kernel
theorem dX11_next_27 : decode cX11_next 27 = .ok (.bipush 10, 2) := by decide +kernel
theorem dX11_next_29 : decode cX11_next 29 = .ok (.if_icmp .ge 7, 3) := by decide +kernel
theorem dX11_next_32 : decode cX11_next 32 = .ok (.iconst 0, 1) := by decide +kernel
theorem dX11_next_33 : decode cX11_next 33 = .ok (.goto 4, 3) := by decide +kernel
theorem dX11_next_36 : decode cX11_next 36 = .ok (.iconst 1, 1) := by decide +kernel
theorem dX11_next_37 : decode cX11_next 37 = .ok (.istore 6, 2) := by decide +kernel
theorem dX11_next_39 : decode cX11_next 39 = .ok (.iconst 0, 1) := by decide +kernel
theorem dX11_next_40 : decode cX11_next 40 = .ok (.istore 7, 2) := by decide +kernel
theorem dX11_next_42 : decode cX11_next 42 = .ok (.iconst 0, 1) := by decide +kernel
theorem dX11_next_43 : decode cX11_next 43 = .ok (.istore 8, 2) := by decide +kernel
theorem dX11_next_45 : decode cX11_next 45 = .ok (.iload 8, 2) := by decide +kernel
theorem dX11_next_47 : decode cX11_next 47 = .ok (.aload_n 0, 1) := by decide +kernel
theorem dX11_next_48 : decode cX11_next 48 = .ok (.getfield 13, 3) := by decide +kernel
theorem dX11_next_51 : decode cX11_next 51 = .ok (.iconst 1, 1) := by decide +kernel
theorem dX11_next_52 : decode cX11_next 52 = .ok (.iaload, 1) := by decide +kernel
theorem dX11_next_53 : decode cX11_next 53 = .ok (.if_icmp .ge 44, 3) := by decide +kernel
theorem dX11_next_56 : decode cX11_next 56 = .ok (.iload 7, 2) := by decide +kernel
theorem dX11_next_58 : decode cX11_next 58 = .ok (.iload_n 1, 1) := by decide +kernel
theorem dX11_next_59 : decode cX11_next 59 = .ok (.iload 8, 2) := by decide +kernel
theorem dX11_next_61 : decode cX11_next 61 = .ok (.invokestatic 118, 3) := by decide +kernel
theorem dX11_next_64 : decode cX11_next 64 = .ok (.ifCond .eq 23, 3) := by decide +kernel
theorem dX11_next_67 : decode cX11_next 67 = .ok (.aload_n 0, 1) := by decide +kernel
theorem dX11_next_68 : decode cX11_next 68 = .ok (.iload 8, 2) := by decide +kernel
theorem dX11_next_70 : decode cX11_next 70 = .ok (.iload 6, 2) := by decide +kernel
theorem dX11_next_72 : decode cX11_next 72 = .ok (.iload 5, 2) := by decide +kernel
theorem dX11_next_74 : decode cX11_next 74 = .ok (.bipush 10, 2) := by decide +kernel
theorem dX11_next_76 : decode cX11_next 76 = .ok (.irem, 1) := by decide +kernel
theorem dX11_next_77 : decode cX11_next 77 = .ok (.invokevirtual 229, 3) := by decide +kernel
theorem dX11_next_80 : decode cX11_next 80 = .ok (.ifCond .eq 7, 3) := by decide +kernel
theorem dX11_next_83 : decode cX11_next 83 = .ok (.iconst 1, 1) := by decide +kernel
theorem dX11_next_84 : decode cX11_next 84 = .ok (.goto 4, 3) := by decide +kernel
theorem dX11_next_87 : decode cX11_next 87 = .ok (.iconst 0, 1) := by decide +kernel
theorem dX11_next_88 : decode cX11_next 88 = .ok (.iadd, 1) := by decide +kernel
theorem dX11_next_89 : decode cX11_next 89 = .ok (.istore 7, 2) := by decide +kernel
theorem dX11_next_91 : decode cX11_next 91 = .ok (.iinc 8 1, 3) := by decide +kernel
theorem dX11_next_94 : decode cX11_next 94 = .ok (.goto (-49), 3) := by decide +kernel
theorem dX11_next_97 : decode cX11_next 97 = .ok (.iload 7, 2) := by decide +kernel
theorem dX11_next_99 : decode cX11_next 99 = .ok (.iload_n 2, 1) := by decide +kernel
theorem dX11_next_100 : decode cX11_next 100 = .ok (.iload 7, 2) := by decide +kernel
theorem dX11_next_102 : decode cX11_next 102 = .ok (.isub, 1) := by decide +kernel
theorem dX11_next_103 : decode cX11_next 103 = .ok (.if_icmp .le 8, 3) := by decide +kernel
theorem dX11_next_106 : decode cX11_next 106 = .ok (.iload 7, 2) := by decide +kernel
theorem dX11_next_108 : decode cX11_next 108 = .ok (.goto 7, 3) := by decide +kernel
theorem dX11_next_111 : decode cX11_next 111 = .ok (.iload_n 2, 1) := by decide +kernel
theorem dX11_next_112 : decode cX11_next 112 = .ok (.iload 7, 2) := by decide +kernel
theorem dX11_next_114 : decode cX11_next 114 = .ok (.isub, 1) := by decide +kernel
theorem dX11_next_115 : decode cX11_next 115 = .ok (.istore 8, 2) := by decide +kernel
theorem dX11_next_117 : decode cX11_next 117 = .ok (.iload 8, 2) := by decide +kernel
theorem dX11_next_119 : decode cX11_next 119 = .ok (.iload 4, 2) := by decide +kernel
theorem dX11_next_121 : decode cX11_next 121 = .ok (.if_icmp .ge 8, 3) := by decide +kernel
theorem dX11_next_124 : decode cX11_next 124 = .ok (.iload 5, 2) := by decide +kernel
theorem dX11_next_126 : decode cX11_next 126 = .ok (.goto 4, 3) := by decide +kernel
theorem dX11_next_129 : decode cX11_next 129 = .ok (.iload_n 3, 1) := by decide +kernel
theorem dX11_next_130 : decode cX11_next 130 = .ok (.istore_n 3, 1) := by decide +kernel
theorem dX11_next_131 : decode cX11_next 131 = .ok (.iload 8, 2) := by decide +kernel
theorem dX11_next_133 : decode cX11_next 133 = .ok (.iload 4, 2) := by decide +kernel
theorem dX11_next_135 : decode cX11_next 135 = .ok (.if_icmp .ge 8, 3) := by decide +kernel
theorem dX11_next_138 : decode cX11_next 138 = .ok (.iload 8, 2) := by decide +kernel
theorem dX11_next_140 : decode cX11_next 140 = .ok (.goto 5, 3) := by decide +kernel
theorem dX11_next_143 : decode cX11_next 143 = .ok (.iload 4, 2) := by decide +kernel
theorem dX11_next_145 : decode cX11_next 145 = .ok (.istore 4, 2) := by decide +kernel
theorem dX11_next_147 : decode cX11_next 147 = .ok (.iinc 5 1, 3) := by decide +kernel
theorem dX11_next_150 : decode cX11_next 150 = .ok (.goto (-132), 3) := by decide +kernel
theorem dX11_next_153 : decode cX11_next 153 = .ok (.iload_n 3, 1) := by decide +kernel
theorem dX11_next_154 : decode cX11_next 154 = .ok (.ireturn, 1) := by decide +kernel
theorem dX11_write_0 : decode cX11_write 0 = .ok (.iload_n 2, 1) := by decide +kernel
theorem dX11_write_1 : decode cX11_write 1 = .ok (.iconst (-1), 1) := by decide +kernel
theorem dX11_write_2 : decode cX11_write 2 = .ok (.if_icmp .eq 14, 3) := by decide +kernel
theorem dX11_write_5 : decode cX11_write 5 = .ok (.aload_n 0, 1) := by decide +kernel
theorem dX11_write_6 : decode cX11_write 6 = .ok (.iload_n 2, 1) := by decide +kernel
theorem dX11_write_7 : decode cX11_write 7 = .ok (.invokevirtual 153, 3) := by decide +kernel
theorem dX11_write_10 : decode cX11_write 10 = .ok (.ifCond .ne 6, 3) := by decide +kernel
theorem dX11_write_13 : decode cX11_write 13 = .ok (.ldc 156, 2) := by decide +kernel
theorem dX11_write_15 : decode cX11_write 15 = .ok (.ireturn, 1) := by decide +kernel
theorem dX11_write_16 : decode cX11_write 16 = .ok (.iload_n 1, 1) := by decide +kernel
theorem dX11_write_17 : decode cX11_write 17 = .ok (.iconst 0, 1) := by decide +kernel
theorem dX11_write_18 : decode cX11_write 18 = .ok (.bipush 6, 2) := by decide +kernel
theorem dX11_write_20 : decode cX11_write 20 = .ok (.invokestatic 67, 3) := by decide +kernel
theorem dX11_write_23 : decode cX11_write 23 = .ok (.ifCond .ne 6, 3) := by decide +kernel
theorem dX11_write_26 : decode cX11_write 26 = .ok (.ldc 71, 2) := by decide +kernel
theorem dX11_write_28 : decode cX11_write 28 = .ok (.ireturn, 1) := by decide +kernel
theorem dX11_write_29 : decode cX11_write 29 = .ok (.aload_n 0, 1) := by decide +kernel
theorem dX11_write_30 : decode cX11_write 30 = .ok (.getfield 115, 3) := by decide +kernel
theorem dX11_write_33 : decode cX11_write 33 = .ok (.bipush 20, 2) := by decide +kernel
theorem dX11_write_35 : decode cX11_write 35 = .ok (.if_icmp .ne 6, 3) := by decide +kernel
theorem dX11_write_38 : decode cX11_write 38 = .ok (.ldc 75, 2) := by decide +kernel
theorem dX11_write_40 : decode cX11_write 40 = .ok (.ireturn, 1) := by decide +kernel
theorem dX11_write_41 : decode cX11_write 41 = .ok (.aload_n 0, 1) := by decide +kernel
theorem dX11_write_42 : decode cX11_write 42 = .ok (.getfield 35, 3) := by decide +kernel
theorem dX11_write_45 : decode cX11_write 45 = .ok (.iconst 2, 1) := by decide +kernel
theorem dX11_write_46 : decode cX11_write 46 = .ok (.aload_n 0, 1) := by decide +kernel
theorem dX11_write_47 : decode cX11_write 47 = .ok (.getfield 115, 3) := by decide +kernel
theorem dX11_write_50 : decode cX11_write 50 = .ok (.imul, 1) := by decide +kernel
theorem dX11_write_51 : decode cX11_write 51 = .ok (.iload_n 1, 1) := by decide +kernel
theorem dX11_write_52 : decode cX11_write 52 = .ok (.iastore, 1) := by decide +kernel
theorem dX11_write_53 : decode cX11_write 53 = .ok (.aload_n 0, 1) := by decide +kernel
theorem dX11_write_54 : decode cX11_write 54 = .ok (.getfield 35, 3) := by decide +kernel
theorem dX11_write_57 : decode cX11_write 57 = .ok (.iconst 2, 1) := by decide +kernel
theorem dX11_write_58 : decode cX11_write 58 = .ok (.aload_n 0, 1) := by decide +kernel
theorem dX11_write_59 : decode cX11_write 59 = .ok (.getfield 115, 3) := by decide +kernel
theorem dX11_write_62 : decode cX11_write 62 = .ok (.imul, 1) := by decide +kernel
theorem dX11_write_63 : decode cX11_write 63 = .ok (.iconst 1, 1) := by decide +kernel
theorem dX11_write_64 : decode cX11_write 64 = .ok (.iadd, 1) := by decide +kernel
theorem dX11_write_65 : decode cX11_write 65 = .ok (.iload_n 2, 1) := by decide +kernel
theorem dX11_write_66 : decode cX11_write 66 = .ok (.iastore, 1) := by decide +kernel
theorem dX11_write_67 : decode cX11_write 67 = .ok (.aload_n 0, 1) := by decide +kernel
theorem dX11_write_68 : decode cX11_write 68 = .ok (.dup, 1) := by decide +kernel
theorem dX11_write_69 : decode cX11_write 69 = .ok (.getfield 115, 3) := by decide +kernel
theorem dX11_write_72 : decode cX11_write 72 = .ok (.iconst 1, 1) := by decide +kernel
theorem dX11_write_73 : decode cX11_write 73 = .ok (.iadd, 1) := by decide +kernel
theorem dX11_write_74 : decode cX11_write 74 = .ok (.putfield 115, 3) := by decide +kernel
theorem dX11_write_77 : decode cX11_write 77 = .ok (.aload_n 0, 1) := by decide +kernel
theorem dX11_write_78 : decode cX11_write 78 = .ok (.getfield 115, 3) := by decide +kernel
theorem dX11_write_81 : decode cX11_write 81 = .ok (.ireturn, 1) := by decide +kernel
theorem dX11_judge_0 : decode cX11_judge 0 = .ok (.iconst 0, 1) := by decide +kernel
theorem dX11_judge_1 : decode cX11_judge 1 = .ok (.istore_n 1, 1) := by decide +kernel
theorem dX11_judge_2 : decode cX11_judge 2 = .ok (.iload_n 1, 1) := by decide +kernel
theorem dX11_judge_3 : decode cX11_judge 3 = .ok (.aload_n 0, 1) := by decide +kernel
theorem dX11_judge_4 : decode cX11_judge 4 = .ok (.getfield 115, 3) := by decide +kernel
theorem dX11_judge_7 : decode cX11_judge 7 = .ok (.if_icmp .ge 57, 3) := by decide +kernel
theorem dX11_judge_10 : decode cX11_judge 10 = .ok (.aload_n 0, 1) := by decide +kernel
theorem dX11_judge_11 : decode cX11_judge 11 = .ok (.getfield 35, 3) := by decide +kernel
theorem dX11_judge_14 : decode cX11_judge 14 = .ok (.iconst 2, 1) := by decide +kernel
theorem dX11_judge_15 : decode cX11_judge 15 = .ok (.iload_n 1, 1) := by decide +kernel
theorem dX11_judge_16 : decode cX11_judge 16 = .ok (.imul, 1) := by decide +kernel
theorem dX11_judge_17 : decode cX11_judge 17 = .ok (.iaload, 1) := by decide +kernel
theorem dX11_judge_18 : decode cX11_judge 18 = .ok (.istore_n 2, 1) := by decide +kernel
theorem dX11_judge_19 : decode cX11_judge 19 = .ok (.iload_n 2, 1) := by decide +kernel
theorem dX11_judge_20 : decode cX11_judge 20 = .ok (.aload_n 0, 1) := by decide +kernel
theorem dX11_judge_21 : decode cX11_judge 21 = .ok (.getfield 19, 3) := by decide +kernel
theorem dX11_judge_24 : decode cX11_judge 24 = .ok (.iconst 2, 1) := by decide +kernel
theorem dX11_judge_25 : decode cX11_judge 25 = .ok (.iaload, 1) := by decide +kernel
theorem dX11_judge_26 : decode cX11_judge 26 = .ok (.if_icmp .ge 14, 3) := by decide +kernel
theorem dX11_judge_29 : decode cX11_judge 29 = .ok (.aload_n 0, 1) := by decide +kernel
theorem dX11_judge_30 : decode cX11_judge 30 = .ok (.getfield 19, 3) := by decide +kernel
theorem dX11_judge_33 : decode cX11_judge 33 = .ok (.iconst 4, 1) := by decide +kernel
theorem dX11_judge_34 : decode cX11_judge 34 = .ok (.iload_n 2, 1) := by decide +kernel
theorem dX11_judge_35 : decode cX11_judge 35 = .ok (.iadd, 1) := by decide +kernel
theorem dX11_judge_36 : decode cX11_judge 36 = .ok (.iaload, 1) := by decide +kernel
theorem dX11_judge_37 : decode cX11_judge 37 = .ok (.goto 4, 3) := by decide +kernel
theorem dX11_judge_40 : decode cX11_judge 40 = .ok (.iconst (-1), 1) := by decide +kernel
theorem dX11_judge_41 : decode cX11_judge 41 = .ok (.istore_n 3, 1) := by decide +kernel
theorem dX11_judge_42 : decode cX11_judge 42 = .ok (.iload_n 3, 1) := by decide +kernel
theorem dX11_judge_43 : decode cX11_judge 43 = .ok (.aload_n 0, 1) := by decide +kernel
theorem dX11_judge_44 : decode cX11_judge 44 = .ok (.getfield 35, 3) := by decide +kernel
theorem dX11_judge_47 : decode cX11_judge 47 = .ok (.iconst 2, 1) := by decide +kernel
theorem dX11_judge_48 : decode cX11_judge 48 = .ok (.iload_n 1, 1) := by decide +kernel
theorem dX11_judge_49 : decode cX11_judge 49 = .ok (.imul, 1) := by decide +kernel
theorem dX11_judge_50 : decode cX11_judge 50 = .ok (.iconst 1, 1) := by decide +kernel
theorem dX11_judge_51 : decode cX11_judge 51 = .ok (.iadd, 1) := by decide +kernel
theorem dX11_judge_52 : decode cX11_judge 52 = .ok (.iaload, 1) := by decide +kernel
theorem dX11_judge_53 : decode cX11_judge 53 = .ok (.if_icmp .eq 5, 3) := by decide +kernel
theorem dX11_judge_56 : decode cX11_judge 56 = .ok (.iload_n 1, 1) := by decide +kernel
theorem dX11_judge_57 : decode cX11_judge 57 = .ok (.ireturn, 1) := by decide +kernel
theorem dX11_judge_58 : decode cX11_judge 58 = .ok (.iinc 1 1, 3) := by decide +kernel
theorem dX11_judge_61 : decode cX11_judge 61 = .ok (.goto (-59), 3) := by decide +kernel
theorem dX11_judge_64 : decode cX11_judge 64 = .ok (.iconst (-1), 1) := by decide +kernel
theorem dX11_judge_65 : decode cX11_judge 65 = .ok (.ireturn, 1) := by decide +kernel
theorem dX11_tear_0 : decode cX11_tear 0 = .ok (.aload_n 0, 1) := by decide +kernel
theorem dX11_tear_1 : decode cX11_tear 1 = .ok (.getfield 112, 3) := by decide +kernel
theorem dX11_tear_4 : decode cX11_tear 4 = .ok (.aload_n 0, 1) := by decide +kernel
theorem dX11_tear_5 : decode cX11_tear 5 = .ok (.getfield 115, 3) := by decide +kernel
theorem dX11_tear_8 : decode cX11_tear 8 = .ok (.iadd, 1) := by decide +kernel
theorem dX11_tear_9 : decode cX11_tear 9 = .ok (.istore_n 1, 1) := by decide +kernel
theorem dX11_tear_10 : decode cX11_tear 10 = .ok (.aload_n 0, 1) := by decide +kernel
theorem dX11_tear_11 : decode cX11_tear 11 = .ok (.iconst 0, 1) := by decide +kernel
theorem dX11_tear_12 : decode cX11_tear 12 = .ok (.putfield 112, 3) := by decide +kernel
theorem dX11_tear_15 : decode cX11_tear 15 = .ok (.aload_n 0, 1) := by decide +kernel
theorem dX11_tear_16 : decode cX11_tear 16 = .ok (.iconst 0, 1) := by decide +kernel
theorem dX11_tear_17 : decode cX11_tear 17 = .ok (.putfield 115, 3) := by decide +kernel
theorem dX11_tear_20 : decode cX11_tear 20 = .ok (.iload_n 1, 1) := by decide +kernel
theorem dX11_tear_21 : decode cX11_tear 21 = .ok (.ireturn, 1) := by decide +kernel
theorem dX11_seed_0 : decode cX11_seed 0 = .ok (.iload_n 1, 1) := by decide +kernel
theorem dX11_seed_1 : decode cX11_seed 1 = .ok (.ifCond .ge 6, 3) := by decide +kernel
theorem dX11_seed_4 : decode cX11_seed 4 = .ok (.ldc 71, 2) := by decide +kernel
theorem dX11_seed_6 : decode cX11_seed 6 = .ok (.ireturn, 1) := by decide +kernel
theorem dX11_seed_7 : decode cX11_seed 7 = .ok (.aload_n 0, 1) := by decide +kernel
theorem dX11_seed_8 : decode cX11_seed 8 = .ok (.getfield 180, 3) := by decide +kernel
theorem dX11_seed_11 : decode cX11_seed 11 = .ok (.istore_n 2, 1) := by decide +kernel
theorem dX11_seed_12 : decode cX11_seed 12 = .ok (.aload_n 0, 1) := by decide +kernel
theorem dX11_seed_13 : decode cX11_seed 13 = .ok (.iload_n 1, 1) := by decide +kernel
theorem dX11_seed_14 : decode cX11_seed 14 = .ok (.putfield 180, 3) := by decide +kernel
theorem dX11_seed_17 : decode cX11_seed 17 = .ok (.iload_n 2, 1) := by decide +kernel
theorem dX11_seed_18 : decode cX11_seed 18 = .ok (.ireturn, 1) := by decide +kernel
theorem dX11_keep_0 : decode cX11_keep 0 = .ok (.iload_n 1, 1) := by decide +kernel
theorem dX11_keep_1 : decode cX11_keep 1 = .ok (.iconst 0, 1) := by decide +kernel
theorem dX11_keep_2 : decode cX11_keep 2 = .ok (.iconst 1, 1) := by decide +kernel
theorem dX11_keep_3 : decode cX11_keep 3 = .ok (.invokestatic 67, 3) := by decide +kernel
theorem dX11_keep_6 : decode cX11_keep 6 = .ok (.ifCond .ne 6, 3) := by decide +kernel
theorem dX11_keep_9 : decode cX11_keep 9 = .ok (.ldc 156, 2) := by decide +kernel
theorem dX11_keep_11 : decode cX11_keep 11 = .ok (.ireturn, 1) := by decide +kernel
theorem dX11_keep_12 : decode cX11_keep 12 = .ok (.iconst 0, 1) := by decide +kernel
theorem dX11_keep_13 : decode cX11_keep 13 = .ok (.istore_n 2, 1) := by decide +kernel
theorem dX11_keep_14 : decode cX11_keep 14 = .ok (.iload_n 2, 1) := by decide +kernel
theorem dX11_keep_15 : decode cX11_keep 15 = .ok (.bipush 25, 2) := by decide +kernel
theorem dX11_keep_17 : decode cX11_keep 17 = .ok (.if_icmp .ge 26, 3) := by decide +kernel
theorem dX11_keep_20 : decode cX11_keep 20 = .ok (.aload_n 0, 1) := by decide +kernel
theorem dX11_keep_21 : decode cX11_keep 21 = .ok (.getfield 25, 3) := by decide +kernel
theorem dX11_keep_24 : decode cX11_keep 24 = .ok (.bipush 26, 2) := by decide +kernel
theorem dX11_keep_26 : decode cX11_keep 26 = .ok (.iload_n 1, 1) := by decide +kernel
theorem dX11_keep_27 : decode cX11_keep 27 = .ok (.imul, 1) := by decide +kernel
theorem dX11_keep_28 : decode cX11_keep 28 = .ok (.iload_n 2, 1) := by decide +kernel
theorem dX11_keep_29 : decode cX11_keep 29 = .ok (.iadd, 1) := by decide +kernel
theorem dX11_keep_30 : decode cX11_keep 30 = .ok (.aload_n 0, 1) := by decide +kernel
theorem dX11_keep_31 : decode cX11_keep 31 = .ok (.getfield 19, 3) := by decide +kernel
theorem dX11_keep_34 : decode cX11_keep 34 = .ok (.iload_n 2, 1) := by decide +kernel
theorem dX11_keep_35 : decode cX11_keep 35 = .ok (.iaload, 1) := by decide +kernel
theorem dX11_keep_36 : decode cX11_keep 36 = .ok (.iastore, 1) := by decide +kernel
theorem dX11_keep_37 : decode cX11_keep 37 = .ok (.iinc 2 1, 3) := by decide +kernel
theorem dX11_keep_40 : decode cX11_keep 40 = .ok (.goto (-26), 3) := by decide +kernel
theorem dX11_keep_43 : decode cX11_keep 43 = .ok (.aload_n 0, 1) := by decide +kernel
theorem dX11_keep_44 : decode cX11_keep 44 = .ok (.getfield 25, 3) := by decide +kernel
theorem dX11_keep_47 : decode cX11_keep 47 = .ok (.bipush 26, 2) := by decide +kernel
theorem dX11_keep_49 : decode cX11_keep 49 = .ok (.iload_n 1, 1) := by decide +kernel
theorem dX11_keep_50 : decode cX11_keep 50 = .ok (.imul, 1) := by decide +kernel
theorem dX11_keep_51 : decode cX11_keep 51 = .ok (.bipush 25, 2) := by decide +kernel
theorem dX11_keep_53 : decode cX11_keep 53 = .ok (.iadd, 1) := by decide +kernel
theorem dX11_keep_54 : decode cX11_keep 54 = .ok (.aload_n 0, 1) := by decide +kernel
theorem dX11_keep_55 : decode cX11_keep 55 = .ok (.getfield 180, 3) := by decide +kernel
theorem dX11_keep_58 : decode cX11_keep 58 = .ok (.iastore, 1) := by decide +kernel
theorem dX11_keep_59 : decode cX11_keep 59 = .ok (.aload_n 0, 1) := by decide +kernel
theorem dX11_keep_60 : decode cX11_keep 60 = .ok (.getfield 28, 3) := by decide +kernel
theorem dX11_keep_63 : decode cX11_keep 63 = .ok (.iload_n 1, 1) := by decide +kernel
theorem dX11_keep_64 : decode cX11_keep 64 = .ok (.iconst 1, 1) := by decide +kernel
theorem dX11_keep_65 : decode cX11_keep 65 = .ok (.bastore, 1) := by decide +kernel
theorem dX11_keep_66 : decode cX11_keep 66 = .ok (.aload_n 0, 1) := by decide +kernel
theorem dX11_keep_67 : decode cX11_keep 67 = .ok (.iconst 0, 1) := by decide +kernel
theorem dX11_keep_68 : decode cX11_keep 68 = .ok (.putfield 109, 3) := by decide +kernel
theorem dX11_keep_71 : decode cX11_keep 71 = .ok (.iconst 1, 1) := by decide +kernel
theorem dX11_keep_72 : decode cX11_keep 72 = .ok (.ireturn, 1) := by decide +kernel
theorem dX11_goBack_0 : decode cX11_goBack 0 = .ok (.iload_n 1, 1) := by decide +kernel
theorem dX11_goBack_1 : decode cX11_goBack 1 = .ok (.iconst 0, 1) := by decide +kernel
theorem dX11_goBack_2 : decode cX11_goBack 2 = .ok (.iconst 1, 1) := by decide +kernel
theorem dX11_goBack_3 : decode cX11_goBack 3 = .ok (.invokestatic 67, 3) := by decide +kernel
theorem dX11_goBack_6 : decode cX11_goBack 6 = .ok (.ifCond .ne 6, 3) := by decide +kernel
theorem dX11_goBack_9 : decode cX11_goBack 9 = .ok (.ldc 156, 2) := by decide +kernel
theorem dX11_goBack_11 : decode cX11_goBack 11 = .ok (.ireturn, 1) := by decide +kernel
theorem dX11_goBack_12 : decode cX11_goBack 12 = .ok (.aload_n 0, 1) := by decide +kernel
theorem dX11_goBack_13 : decode cX11_goBack 13 = .ok (.getfield 28, 3) := by decide +kernel
theorem dX11_goBack_16 : decode cX11_goBack 16 = .ok (.iload_n 1, 1) := by decide +kernel
theorem dX11_goBack_17 : decode cX11_goBack 17 = .ok (.baload, 1) := by decide +kernel
theorem dX11_goBack_18 : decode cX11_goBack 18 = .ok (.ifCond .ne 6, 3) := by decide +kernel
theorem dX11_goBack_21 : decode cX11_goBack 21 = .ok (.ldc 170, 2) := by decide +kernel
theorem dX11_goBack_23 : decode cX11_goBack 23 = .ok (.ireturn, 1) := by decide +kernel
theorem dX11_goBack_24 : decode cX11_goBack 24 = .ok (.iconst 0, 1) := by decide +kernel
theorem dX11_goBack_25 : decode cX11_goBack 25 = .ok (.istore_n 2, 1) := by decide +kernel
theorem dX11_goBack_26 : decode cX11_goBack 26 = .ok (.iload_n 2, 1) := by decide +kernel
theorem dX11_goBack_27 : decode cX11_goBack 27 = .ok (.bipush 25, 2) := by decide +kernel
theorem dX11_goBack_29 : decode cX11_goBack 29 = .ok (.if_icmp .ge 26, 3) := by decide +kernel
theorem dX11_goBack_32 : decode cX11_goBack 32 = .ok (.aload_n 0, 1) := by decide +kernel
theorem dX11_goBack_33 : decode cX11_goBack 33 = .ok (.getfield 19, 3) := by decide +kernel
theorem dX11_goBack_36 : decode cX11_goBack 36 = .ok (.iload_n 2, 1) := by decide +kernel
theorem dX11_goBack_37 : decode cX11_goBack 37 = .ok (.aload_n 0, 1) := by decide +kernel
theorem dX11_goBack_38 : decode cX11_goBack 38 = .ok (.getfield 25, 3) := by decide +kernel
theorem dX11_goBack_41 : decode cX11_goBack 41 = .ok (.bipush 26, 2) := by decide +kernel
theorem dX11_goBack_43 : decode cX11_goBack 43 = .ok (.iload_n 1, 1) := by decide +kernel
theorem dX11_goBack_44 : decode cX11_goBack 44 = .ok (.imul, 1) := by decide +kernel
theorem dX11_goBack_45 : decode cX11_goBack 45 = .ok (.iload_n 2, 1) := by decide +kernel
theorem dX11_goBack_46 : decode cX11_goBack 46 = .ok (.iadd, 1) := by decide +kernel
theorem dX11_goBack_47 : decode cX11_goBack 47 = .ok (.iaload, 1) := by decide +kernel
theorem dX11_goBack_48 : decode cX11_goBack 48 = .ok (.iastore, 1) := by decide +kernel
theorem dX11_goBack_49 : decode cX11_goBack 49 = .ok (.iinc 2 1, 3) := by decide +kernel
theorem dX11_goBack_52 : decode cX11_goBack 52 = .ok (.goto (-26), 3) := by decide +kernel
theorem dX11_goBack_55 : decode cX11_goBack 55 = .ok (.aload_n 0, 1) := by decide +kernel
theorem dX11_goBack_56 : decode cX11_goBack 56 = .ok (.aload_n 0, 1) := by decide +kernel
theorem dX11_goBack_57 : decode cX11_goBack 57 = .ok (.getfield 25, 3) := by decide +kernel
theorem dX11_goBack_60 : decode cX11_goBack 60 = .ok (.bipush 26, 2) := by decide +kernel
theorem dX11_goBack_62 : decode cX11_goBack 62 = .ok (.iload_n 1, 1) := by decide +kernel
theorem dX11_goBack_63 : decode cX11_goBack 63 = .ok (.imul, 1) := by decide +kernel
theorem dX11_goBack_64 : decode cX11_goBack 64 = .ok (.bipush 25, 2) := by decide +kernel
theorem dX11_goBack_66 : decode cX11_goBack 66 = .ok (.iadd, 1) := by decide +kernel
theorem dX11_goBack_67 : decode cX11_goBack 67 = .ok (.iaload, 1) := by decide +kernel
theorem dX11_goBack_68 : decode cX11_goBack 68 = .ok (.putfield 180, 3) := by decide +kernel
theorem dX11_goBack_71 : decode cX11_goBack 71 = .ok (.aload_n 0, 1) := by decide +kernel
theorem dX11_goBack_72 : decode cX11_goBack 72 = .ok (.iconst 0, 1) := by decide +kernel
theorem dX11_goBack_73 : decode cX11_goBack 73 = .ok (.putfield 109, 3) := by decide +kernel
theorem dX11_goBack_76 : decode cX11_goBack 76 = .ok (.iconst 1, 1) := by decide +kernel
theorem dX11_goBack_77 : decode cX11_goBack 77 = .ok (.ireturn, 1) := by decide +kernel
theorem dJ6_bitCount_0f7a4_0 : decode cJ6_bitCount_0f7a4 0 = .ok (.iload_n 0, 1) := by decide +kernel
theorem dJ6_bitCount_0f7a4_1 : decode cJ6_bitCount_0f7a4 1 = .ok (.iload_n 0, 1) := by decide +kernel
theorem dJ6_bitCount_0f7a4_2 : decode cJ6_bitCount_0f7a4 2 = .ok (.iconst 1, 1) := by decide +kernel
theorem dJ6_bitCount_0f7a4_3 : decode cJ6_bitCount_0f7a4 3 = .ok (.iushr, 1) := by decide +kernel
theorem dJ6_bitCount_0f7a4_4 : decode cJ6_bitCount_0f7a4 4 = .ok (.ldc_w 265, 3) := by decide +kernel
theorem dJ6_bitCount_0f7a4_7 : decode cJ6_bitCount_0f7a4 7 = .ok (.iand, 1) := by decide +kernel
theorem dJ6_bitCount_0f7a4_8 : decode cJ6_bitCount_0f7a4 8 = .ok (.isub, 1) := by decide +kernel
theorem dJ6_bitCount_0f7a4_9 : decode cJ6_bitCount_0f7a4 9 = .ok (.istore_n 0, 1) := by decide +kernel
theorem dJ6_bitCount_0f7a4_10 : decode cJ6_bitCount_0f7a4 10 = .ok (.iload_n 0, 1) := by decide +kernel
theorem dJ6_bitCount_0f7a4_11 : decode cJ6_bitCount_0f7a4 11 = .ok (.ldc_w 266, 3) := by decide +kernel
theorem dJ6_bitCount_0f7a4_14 : decode cJ6_bitCount_0f7a4 14 = .ok (.iand, 1) := by decide +kernel
theorem dJ6_bitCount_0f7a4_15 : decode cJ6_bitCount_0f7a4 15 = .ok (.iload_n 0, 1) := by decide +kernel
theorem dJ6_bitCount_0f7a4_16 : decode cJ6_bitCount_0f7a4 16 = .ok (.iconst 2, 1) := by decide +kernel
theorem dJ6_bitCount_0f7a4_17 : decode cJ6_bitCount_0f7a4 17 = .ok (.iushr, 1) := by decide +kernel
theorem dJ6_bitCount_0f7a4_18 : decode cJ6_bitCount_0f7a4 18 = .ok (.ldc_w 266, 3) := by decide +kernel
theorem dJ6_bitCount_0f7a4_21 : decode cJ6_bitCount_0f7a4 21 = .ok (.iand, 1) := by decide +kernel
theorem dJ6_bitCount_0f7a4_22 : decode cJ6_bitCount_0f7a4 22 = .ok (.iadd, 1) := by decide +kernel
theorem dJ6_bitCount_0f7a4_23 : decode cJ6_bitCount_0f7a4 23 = .ok (.istore_n 0, 1) := by decide +kernel
theorem dJ6_bitCount_0f7a4_24 : decode cJ6_bitCount_0f7a4 24 = .ok (.iload_n 0, 1) := by decide +kernel
theorem dJ6_bitCount_0f7a4_25 : decode cJ6_bitCount_0f7a4 25 = .ok (.iload_n 0, 1) := by decide +kernel
theorem dJ6_bitCount_0f7a4_26 : decode cJ6_bitCount_0f7a4 26 = .ok (.iconst 4, 1) := by decide +kernel
theorem dJ6_bitCount_0f7a4_27 : decode cJ6_bitCount_0f7a4 27 = .ok (.iushr, 1) := by decide +kernel
theorem dJ6_bitCount_0f7a4_28 : decode cJ6_bitCount_0f7a4 28 = .ok (.iadd, 1) := by decide +kernel
theorem dJ6_bitCount_0f7a4_29 : decode cJ6_bitCount_0f7a4 29 = .ok (.ldc_w 267, 3) := by decide +kernel
theorem dJ6_bitCount_0f7a4_32 : decode cJ6_bitCount_0f7a4 32 = .ok (.iand, 1) := by decide +kernel
theorem dJ6_bitCount_0f7a4_33 : decode cJ6_bitCount_0f7a4 33 = .ok (.istore_n 0, 1) := by decide +kernel
theorem dJ6_bitCount_0f7a4_34 : decode cJ6_bitCount_0f7a4 34 = .ok (.iload_n 0, 1) := by decide +kernel
theorem dJ6_bitCount_0f7a4_35 : decode cJ6_bitCount_0f7a4 35 = .ok (.iload_n 0, 1) := by decide +kernel
theorem dJ6_bitCount_0f7a4_36 : decode cJ6_bitCount_0f7a4 36 = .ok (.bipush 8, 2) := by decide +kernel
theorem dJ6_bitCount_0f7a4_38 : decode cJ6_bitCount_0f7a4 38 = .ok (.iushr, 1) := by decide +kernel
theorem dJ6_bitCount_0f7a4_39 : decode cJ6_bitCount_0f7a4 39 = .ok (.iadd, 1) := by decide +kernel
theorem dJ6_bitCount_0f7a4_40 : decode cJ6_bitCount_0f7a4 40 = .ok (.istore_n 0, 1) := by decide +kernel
theorem dJ6_bitCount_0f7a4_41 : decode cJ6_bitCount_0f7a4 41 = .ok (.iload_n 0, 1) := by decide +kernel
theorem dJ6_bitCount_0f7a4_42 : decode cJ6_bitCount_0f7a4 42 = .ok (.iload_n 0, 1) := by decide +kernel
theorem dJ6_bitCount_0f7a4_43 : decode cJ6_bitCount_0f7a4 43 = .ok (.bipush 16, 2) := by decide +kernel
theorem dJ6_bitCount_0f7a4_45 : decode cJ6_bitCount_0f7a4 45 = .ok (.iushr, 1) := by decide +kernel
theorem dJ6_bitCount_0f7a4_46 : decode cJ6_bitCount_0f7a4 46 = .ok (.iadd, 1) := by decide +kernel
theorem dJ6_bitCount_0f7a4_47 : decode cJ6_bitCount_0f7a4 47 = .ok (.istore_n 0, 1) := by decide +kernel
theorem dJ6_bitCount_0f7a4_48 : decode cJ6_bitCount_0f7a4 48 = .ok (.iload_n 0, 1) := by decide +kernel
theorem dJ6_bitCount_0f7a4_49 : decode cJ6_bitCount_0f7a4 49 = .ok (.bipush 63, 2) := by decide +kernel
theorem dJ6_bitCount_0f7a4_51 : decode cJ6_bitCount_0f7a4 51 = .ok (.iand, 1) := by decide +kernel
theorem dJ6_bitCount_0f7a4_52 : decode cJ6_bitCount_0f7a4 52 = .ok (.ireturn, 1) := by decide +kernel
theorem dJ9_floorMod_7cf53_0 : decode cJ9_floorMod_7cf53 0 = .ok (.iload_n 0, 1) := by decide +kernel
theorem dJ9_floorMod_7cf53_1 : decode cJ9_floorMod_7cf53 1 = .ok (.iload_n 1, 1) := by decide +kernel
theorem dJ9_floorMod_7cf53_2 : decode cJ9_floorMod_7cf53 2 = .ok (.irem, 1) := by decide +kernel
theorem dJ9_floorMod_7cf53_3 : decode cJ9_floorMod_7cf53 3 = .ok (.istore_n 2, 1) := by decide +kernel
theorem dJ9_floorMod_7cf53_4 : decode cJ9_floorMod_7cf53 4 = .ok (.iload_n 0, 1) := by decide +kernel
theorem dJ9_floorMod_7cf53_5 : decode cJ9_floorMod_7cf53 5 = .ok (.iload_n 1, 1) := by decide +kernel
theorem dJ9_floorMod_7cf53_6 : decode cJ9_floorMod_7cf53 6 = .ok (.ixor, 1) := by decide +kernel
theorem dJ9_floorMod_7cf53_7 : decode cJ9_floorMod_7cf53 7 = .ok (.ifCond .ge 11, 3) := by decide +kernel
theorem dJ9_floorMod_7cf53_10 : decode cJ9_floorMod_7cf53 10 = .ok (.iload_n 2, 1) := by decide +kernel
theorem dJ9_floorMod_7cf53_11 : decode cJ9_floorMod_7cf53 11 = .ok (.ifCond .eq 7, 3) := by decide +kernel
theorem dJ9_floorMod_7cf53_14 : decode cJ9_floorMod_7cf53 14 = .ok (.iload_n 2, 1) := by decide +kernel
theorem dJ9_floorMod_7cf53_15 : decode cJ9_floorMod_7cf53 15 = .ok (.iload_n 1, 1) := by decide +kernel
theorem dJ9_floorMod_7cf53_16 : decode cJ9_floorMod_7cf53 16 = .ok (.iadd, 1) := by decide +kernel
theorem dJ9_floorMod_7cf53_17 : decode cJ9_floorMod_7cf53 17 = .ok (.ireturn, 1) := by decide +kernel
theorem dJ9_floorMod_7cf53_18 : decode cJ9_floorMod_7cf53 18 = .ok (.iload_n 2, 1) := by decide +kernel
theorem dJ9_floorMod_7cf53_19 : decode cJ9_floorMod_7cf53 19 = .ok (.ireturn, 1) := by decide +kernel
theorem dJ9_max_7cf53_0 : decode cJ9_max_7cf53 0 = .ok (.iload_n 0, 1) := by decide +kernel
theorem dJ9_max_7cf53_1 : decode cJ9_max_7cf53 1 = .ok (.iload_n 1, 1) := by decide +kernel
theorem dJ9_max_7cf53_2 : decode cJ9_max_7cf53 2 = .ok (.if_icmp .lt 7, 3) := by decide +kernel
theorem dJ9_max_7cf53_5 : decode cJ9_max_7cf53 5 = .ok (.iload_n 0, 1) := by decide +kernel
theorem dJ9_max_7cf53_6 : decode cJ9_max_7cf53 6 = .ok (.goto 4, 3) := by decide +kernel
theorem dJ9_max_7cf53_9 : decode cJ9_max_7cf53 9 = .ok (.iload_n 1, 1) := by decide +kernel
theorem dJ9_max_7cf53_10 : decode cJ9_max_7cf53 10 = .ok (.ireturn, 1) := by decide +kernel
theorem dJ9_min_7cf53_0 : decode cJ9_min_7cf53 0 = .ok (.iload_n 0, 1) := by decide +kernel
theorem dJ9_min_7cf53_1 : decode cJ9_min_7cf53 1 = .ok (.iload_n 1, 1) := by decide +kernel
theorem dJ9_min_7cf53_2 : decode cJ9_min_7cf53 2 = .ok (.if_icmp .gt 7, 3) := by decide +kernel
theorem dJ9_min_7cf53_5 : decode cJ9_min_7cf53 5 = .ok (.iload_n 0, 1) := by decide +kernel
theorem dJ9_min_7cf53_6 : decode cJ9_min_7cf53 6 = .ok (.goto 4, 3) := by decide +kernel
theorem dJ9_min_7cf53_9 : decode cJ9_min_7cf53 9 = .ok (.iload_n 1, 1) := by decide +kernel
theorem dJ9_min_7cf53_10 : decode cJ9_min_7cf53 10 = .ok (.ireturn, 1) := by decide +kernel
theorem dJ7_fill_53178_0 : decode cJ7_fill_53178 0 = .ok (.iconst 0, 1) := by decide +kernel
theorem dJ7_fill_53178_1 : decode cJ7_fill_53178 1 = .ok (.istore_n 2, 1) := by decide +kernel
theorem dJ7_fill_53178_2 : decode cJ7_fill_53178 2 = .ok (.aload_n 0, 1) := by decide +kernel
theorem dJ7_fill_53178_3 : decode cJ7_fill_53178 3 = .ok (.arraylength, 1) := by decide +kernel
theorem dJ7_fill_53178_4 : decode cJ7_fill_53178 4 = .ok (.istore_n 3, 1) := by decide +kernel
theorem dJ7_fill_53178_5 : decode cJ7_fill_53178 5 = .ok (.iload_n 2, 1) := by decide +kernel
theorem dJ7_fill_53178_6 : decode cJ7_fill_53178 6 = .ok (.iload_n 3, 1) := by decide +kernel
theorem dJ7_fill_53178_7 : decode cJ7_fill_53178 7 = .ok (.if_icmp .ge 13, 3) := by decide +kernel
theorem dJ7_fill_53178_10 : decode cJ7_fill_53178 10 = .ok (.aload_n 0, 1) := by decide +kernel
theorem dJ7_fill_53178_11 : decode cJ7_fill_53178 11 = .ok (.iload_n 2, 1) := by decide +kernel
theorem dJ7_fill_53178_12 : decode cJ7_fill_53178 12 = .ok (.iload_n 1, 1) := by decide +kernel
theorem dJ7_fill_53178_13 : decode cJ7_fill_53178 13 = .ok (.iastore, 1) := by decide +kernel
theorem dJ7_fill_53178_14 : decode cJ7_fill_53178 14 = .ok (.iinc 2 1, 3) := by decide +kernel
theorem dJ7_fill_53178_17 : decode cJ7_fill_53178 17 = .ok (.goto (-12), 3) := by decide +kernel
theorem dJ7_fill_53178_20 : decode cJ7_fill_53178 20 = .ok (.return_, 1) := by decide +kernel
theorem dL_law_0 : decode cL_law 0 = .ok (.new 7, 3) := by decide +kernel
theorem dL_law_3 : decode cL_law 3 = .ok (.dup, 1) := by decide +kernel
theorem dL_law_4 : decode cL_law 4 = .ok (.invokespecial 9, 3) := by decide +kernel
theorem dL_law_7 : decode cL_law 7 = .ok (.astore_n 1, 1) := by decide +kernel
theorem dL_law_8 : decode cL_law 8 = .ok (.new 10, 3) := by decide +kernel
theorem dL_law_11 : decode cL_law 11 = .ok (.dup, 1) := by decide +kernel
theorem dL_law_12 : decode cL_law 12 = .ok (.invokespecial 12, 3) := by decide +kernel
theorem dL_law_15 : decode cL_law 15 = .ok (.astore_n 2, 1) := by decide +kernel
theorem dL_law_16 : decode cL_law 16 = .ok (.iconst 0, 1) := by decide +kernel
theorem dL_law_17 : decode cL_law 17 = .ok (.istore_n 3, 1) := by decide +kernel
theorem dL_law_18 : decode cL_law 18 = .ok (.iload_n 3, 1) := by decide +kernel
theorem dL_law_19 : decode cL_law 19 = .ok (.aload_n 0, 1) := by decide +kernel
theorem dL_law_20 : decode cL_law 20 = .ok (.arraylength, 1) := by decide +kernel
theorem dL_law_21 : decode cL_law 21 = .ok (.iconst 4, 1) := by decide +kernel
theorem dL_law_22 : decode cL_law 22 = .ok (.isub, 1) := by decide +kernel
theorem dL_law_23 : decode cL_law 23 = .ok (.if_icmp .gt 1011, 3) := by decide +kernel
theorem dL_law_26 : decode cL_law 26 = .ok (.aload_n 0, 1) := by decide +kernel
theorem dL_law_27 : decode cL_law 27 = .ok (.iload_n 3, 1) := by decide +kernel
theorem dL_law_28 : decode cL_law 28 = .ok (.iaload, 1) := by decide +kernel
theorem dL_law_29 : decode cL_law 29 = .ok (.bipush 63, 2) := by decide +kernel
theorem dL_law_31 : decode cL_law 31 = .ok (.iand, 1) := by decide +kernel
theorem dL_law_32 : decode cL_law 32 = .ok (.tableswitch 996 0 33 #[152, 175, 188, 201, 224, 257, 280, 313, 346, 369, 392, 415, 448, 487, 510, 533, 556, 579, 602, 625, 658, 681, 704, 727, 750, 783, 842, 855, 868, 901, 914, 927, 950, 973], 152) := by decide +kernel
theorem dL_law_184 : decode cL_law 184 = .ok (.aload_n 1, 1) := by decide +kernel
theorem dL_law_185 : decode cL_law 185 = .ok (.aload_n 0, 1) := by decide +kernel
theorem dL_law_186 : decode cL_law 186 = .ok (.iload_n 3, 1) := by decide +kernel
theorem dL_law_187 : decode cL_law 187 = .ok (.iconst 1, 1) := by decide +kernel
theorem dL_law_188 : decode cL_law 188 = .ok (.iadd, 1) := by decide +kernel
theorem dL_law_189 : decode cL_law 189 = .ok (.iaload, 1) := by decide +kernel
theorem dL_law_190 : decode cL_law 190 = .ok (.invokevirtual 13, 3) := by decide +kernel
theorem dL_law_193 : decode cL_law 193 = .ok (.aload_n 2, 1) := by decide +kernel
theorem dL_law_194 : decode cL_law 194 = .ok (.aload_n 0, 1) := by decide +kernel
theorem dL_law_195 : decode cL_law 195 = .ok (.iload_n 3, 1) := by decide +kernel
theorem dL_law_196 : decode cL_law 196 = .ok (.iconst 1, 1) := by decide +kernel
theorem dL_law_197 : decode cL_law 197 = .ok (.iadd, 1) := by decide +kernel
theorem dL_law_198 : decode cL_law 198 = .ok (.iaload, 1) := by decide +kernel
theorem dL_law_199 : decode cL_law 199 = .ok (.invokevirtual 17, 3) := by decide +kernel
theorem dL_law_202 : decode cL_law 202 = .ok (.if_icmp .eq 826, 3) := by decide +kernel
theorem dL_law_205 : decode cL_law 205 = .ok (.iconst 0, 1) := by decide +kernel
theorem dL_law_206 : decode cL_law 206 = .ok (.ireturn, 1) := by decide +kernel
theorem dL_law_207 : decode cL_law 207 = .ok (.aload_n 1, 1) := by decide +kernel
theorem dL_law_208 : decode cL_law 208 = .ok (.invokevirtual 18, 3) := by decide +kernel
theorem dL_law_211 : decode cL_law 211 = .ok (.aload_n 2, 1) := by decide +kernel
theorem dL_law_212 : decode cL_law 212 = .ok (.invokevirtual 22, 3) := by decide +kernel
theorem dL_law_215 : decode cL_law 215 = .ok (.if_icmp .eq 813, 3) := by decide +kernel
theorem dL_law_218 : decode cL_law 218 = .ok (.iconst 0, 1) := by decide +kernel
theorem dL_law_219 : decode cL_law 219 = .ok (.ireturn, 1) := by decide +kernel
theorem dL_law_220 : decode cL_law 220 = .ok (.aload_n 1, 1) := by decide +kernel
theorem dL_law_221 : decode cL_law 221 = .ok (.invokevirtual 23, 3) := by decide +kernel
theorem dL_law_224 : decode cL_law 224 = .ok (.aload_n 2, 1) := by decide +kernel
theorem dL_law_225 : decode cL_law 225 = .ok (.invokevirtual 26, 3) := by decide +kernel
theorem dL_law_228 : decode cL_law 228 = .ok (.if_icmp .eq 800, 3) := by decide +kernel
theorem dL_law_231 : decode cL_law 231 = .ok (.iconst 0, 1) := by decide +kernel
theorem dL_law_232 : decode cL_law 232 = .ok (.ireturn, 1) := by decide +kernel
theorem dL_law_233 : decode cL_law 233 = .ok (.aload_n 1, 1) := by decide +kernel
theorem dL_law_234 : decode cL_law 234 = .ok (.aload_n 0, 1) := by decide +kernel
theorem dL_law_235 : decode cL_law 235 = .ok (.iload_n 3, 1) := by decide +kernel
theorem dL_law_236 : decode cL_law 236 = .ok (.iconst 1, 1) := by decide +kernel
theorem dL_law_237 : decode cL_law 237 = .ok (.iadd, 1) := by decide +kernel
theorem dL_law_238 : decode cL_law 238 = .ok (.iaload, 1) := by decide +kernel
theorem dL_law_239 : decode cL_law 239 = .ok (.invokevirtual 27, 3) := by decide +kernel
theorem dL_law_242 : decode cL_law 242 = .ok (.aload_n 2, 1) := by decide +kernel
theorem dL_law_243 : decode cL_law 243 = .ok (.aload_n 0, 1) := by decide +kernel
theorem dL_law_244 : decode cL_law 244 = .ok (.iload_n 3, 1) := by decide +kernel
theorem dL_law_245 : decode cL_law 245 = .ok (.iconst 1, 1) := by decide +kernel
theorem dL_law_246 : decode cL_law 246 = .ok (.iadd, 1) := by decide +kernel
theorem dL_law_247 : decode cL_law 247 = .ok (.iaload, 1) := by decide +kernel
theorem dL_law_248 : decode cL_law 248 = .ok (.invokevirtual 30, 3) := by decide +kernel
theorem dL_law_251 : decode cL_law 251 = .ok (.if_icmp .eq 777, 3) := by decide +kernel
theorem dL_law_254 : decode cL_law 254 = .ok (.iconst 0, 1) := by decide +kernel
theorem dL_law_255 : decode cL_law 255 = .ok (.ireturn, 1) := by decide +kernel
theorem dL_law_256 : decode cL_law 256 = .ok (.aload_n 1, 1) := by decide +kernel
theorem dL_law_257 : decode cL_law 257 = .ok (.aload_n 0, 1) := by decide +kernel
theorem dL_law_258 : decode cL_law 258 = .ok (.iload_n 3, 1) := by decide +kernel
theorem dL_law_259 : decode cL_law 259 = .ok (.iconst 1, 1) := by decide +kernel
theorem dL_law_260 : decode cL_law 260 = .ok (.iadd, 1) := by decide +kernel
theorem dL_law_261 : decode cL_law 261 = .ok (.iaload, 1) := by decide +kernel
theorem dL_law_262 : decode cL_law 262 = .ok (.aload_n 0, 1) := by decide +kernel
theorem dL_law_263 : decode cL_law 263 = .ok (.iload_n 3, 1) := by decide +kernel
theorem dL_law_264 : decode cL_law 264 = .ok (.iconst 2, 1) := by decide +kernel
theorem dL_law_265 : decode cL_law 265 = .ok (.iadd, 1) := by decide +kernel
theorem dL_law_266 : decode cL_law 266 = .ok (.iaload, 1) := by decide +kernel
theorem dL_law_267 : decode cL_law 267 = .ok (.invokevirtual 31, 3) := by decide +kernel
theorem dL_law_270 : decode cL_law 270 = .ok (.aload_n 2, 1) := by decide +kernel
theorem dL_law_271 : decode cL_law 271 = .ok (.aload_n 0, 1) := by decide +kernel
theorem dL_law_272 : decode cL_law 272 = .ok (.iload_n 3, 1) := by decide +kernel
theorem dL_law_273 : decode cL_law 273 = .ok (.iconst 1, 1) := by decide +kernel
theorem dL_law_274 : decode cL_law 274 = .ok (.iadd, 1) := by decide +kernel
theorem dL_law_275 : decode cL_law 275 = .ok (.iaload, 1) := by decide +kernel
theorem dL_law_276 : decode cL_law 276 = .ok (.aload_n 0, 1) := by decide +kernel
theorem dL_law_277 : decode cL_law 277 = .ok (.iload_n 3, 1) := by decide +kernel
theorem dL_law_278 : decode cL_law 278 = .ok (.iconst 2, 1) := by decide +kernel
theorem dL_law_279 : decode cL_law 279 = .ok (.iadd, 1) := by decide +kernel
theorem dL_law_280 : decode cL_law 280 = .ok (.iaload, 1) := by decide +kernel
theorem dL_law_281 : decode cL_law 281 = .ok (.invokevirtual 35, 3) := by decide +kernel
theorem dL_law_284 : decode cL_law 284 = .ok (.if_icmp .eq 744, 3) := by decide +kernel
theorem dL_law_287 : decode cL_law 287 = .ok (.iconst 0, 1) := by decide +kernel
theorem dL_law_288 : decode cL_law 288 = .ok (.ireturn, 1) := by decide +kernel
theorem dL_law_289 : decode cL_law 289 = .ok (.aload_n 1, 1) := by decide +kernel
theorem dL_law_290 : decode cL_law 290 = .ok (.aload_n 0, 1) := by decide +kernel
theorem dL_law_291 : decode cL_law 291 = .ok (.iload_n 3, 1) := by decide +kernel
theorem dL_law_292 : decode cL_law 292 = .ok (.iconst 1, 1) := by decide +kernel
theorem dL_law_293 : decode cL_law 293 = .ok (.iadd, 1) := by decide +kernel
theorem dL_law_294 : decode cL_law 294 = .ok (.iaload, 1) := by decide +kernel
theorem dL_law_295 : decode cL_law 295 = .ok (.invokevirtual 36, 3) := by decide +kernel
theorem dL_law_298 : decode cL_law 298 = .ok (.aload_n 2, 1) := by decide +kernel
theorem dL_law_299 : decode cL_law 299 = .ok (.aload_n 0, 1) := by decide +kernel
theorem dL_law_300 : decode cL_law 300 = .ok (.iload_n 3, 1) := by decide +kernel
theorem dL_law_301 : decode cL_law 301 = .ok (.iconst 1, 1) := by decide +kernel
theorem dL_law_302 : decode cL_law 302 = .ok (.iadd, 1) := by decide +kernel
theorem dL_law_303 : decode cL_law 303 = .ok (.iaload, 1) := by decide +kernel
theorem dL_law_304 : decode cL_law 304 = .ok (.invokevirtual 39, 3) := by decide +kernel
theorem dL_law_307 : decode cL_law 307 = .ok (.if_icmp .eq 721, 3) := by decide +kernel
theorem dL_law_310 : decode cL_law 310 = .ok (.iconst 0, 1) := by decide +kernel
theorem dL_law_311 : decode cL_law 311 = .ok (.ireturn, 1) := by decide +kernel
theorem dL_law_312 : decode cL_law 312 = .ok (.aload_n 1, 1) := by decide +kernel
theorem dL_law_313 : decode cL_law 313 = .ok (.aload_n 0, 1) := by decide +kernel
theorem dL_law_314 : decode cL_law 314 = .ok (.iload_n 3, 1) := by decide +kernel
theorem dL_law_315 : decode cL_law 315 = .ok (.iconst 1, 1) := by decide +kernel
theorem dL_law_316 : decode cL_law 316 = .ok (.iadd, 1) := by decide +kernel
theorem dL_law_317 : decode cL_law 317 = .ok (.iaload, 1) := by decide +kernel
theorem dL_law_318 : decode cL_law 318 = .ok (.aload_n 0, 1) := by decide +kernel
theorem dL_law_319 : decode cL_law 319 = .ok (.iload_n 3, 1) := by decide +kernel
theorem dL_law_320 : decode cL_law 320 = .ok (.iconst 2, 1) := by decide +kernel
theorem dL_law_321 : decode cL_law 321 = .ok (.iadd, 1) := by decide +kernel
theorem dL_law_322 : decode cL_law 322 = .ok (.iaload, 1) := by decide +kernel
theorem dL_law_323 : decode cL_law 323 = .ok (.invokevirtual 40, 3) := by decide +kernel
theorem dL_law_326 : decode cL_law 326 = .ok (.aload_n 2, 1) := by decide +kernel
theorem dL_law_327 : decode cL_law 327 = .ok (.aload_n 0, 1) := by decide +kernel
theorem dL_law_328 : decode cL_law 328 = .ok (.iload_n 3, 1) := by decide +kernel
theorem dL_law_329 : decode cL_law 329 = .ok (.iconst 1, 1) := by decide +kernel
theorem dL_law_330 : decode cL_law 330 = .ok (.iadd, 1) := by decide +kernel
theorem dL_law_331 : decode cL_law 331 = .ok (.iaload, 1) := by decide +kernel
theorem dL_law_332 : decode cL_law 332 = .ok (.aload_n 0, 1) := by decide +kernel
theorem dL_law_333 : decode cL_law 333 = .ok (.iload_n 3, 1) := by decide +kernel
theorem dL_law_334 : decode cL_law 334 = .ok (.iconst 2, 1) := by decide +kernel
theorem dL_law_335 : decode cL_law 335 = .ok (.iadd, 1) := by decide +kernel
theorem dL_law_336 : decode cL_law 336 = .ok (.iaload, 1) := by decide +kernel
theorem dL_law_337 : decode cL_law 337 = .ok (.invokevirtual 43, 3) := by decide +kernel
theorem dL_law_340 : decode cL_law 340 = .ok (.if_icmp .eq 688, 3) := by decide +kernel
theorem dL_law_343 : decode cL_law 343 = .ok (.iconst 0, 1) := by decide +kernel
theorem dL_law_344 : decode cL_law 344 = .ok (.ireturn, 1) := by decide +kernel
theorem dL_law_345 : decode cL_law 345 = .ok (.aload_n 1, 1) := by decide +kernel
theorem dL_law_346 : decode cL_law 346 = .ok (.aload_n 0, 1) := by decide +kernel
theorem dL_law_347 : decode cL_law 347 = .ok (.iload_n 3, 1) := by decide +kernel
theorem dL_law_348 : decode cL_law 348 = .ok (.iconst 1, 1) := by decide +kernel
theorem dL_law_349 : decode cL_law 349 = .ok (.iadd, 1) := by decide +kernel
theorem dL_law_350 : decode cL_law 350 = .ok (.iaload, 1) := by decide +kernel
theorem dL_law_351 : decode cL_law 351 = .ok (.aload_n 0, 1) := by decide +kernel
theorem dL_law_352 : decode cL_law 352 = .ok (.iload_n 3, 1) := by decide +kernel
theorem dL_law_353 : decode cL_law 353 = .ok (.iconst 2, 1) := by decide +kernel
theorem dL_law_354 : decode cL_law 354 = .ok (.iadd, 1) := by decide +kernel
theorem dL_law_355 : decode cL_law 355 = .ok (.iaload, 1) := by decide +kernel
theorem dL_law_356 : decode cL_law 356 = .ok (.invokevirtual 44, 3) := by decide +kernel
theorem dL_law_359 : decode cL_law 359 = .ok (.aload_n 2, 1) := by decide +kernel
theorem dL_law_360 : decode cL_law 360 = .ok (.aload_n 0, 1) := by decide +kernel
theorem dL_law_361 : decode cL_law 361 = .ok (.iload_n 3, 1) := by decide +kernel
theorem dL_law_362 : decode cL_law 362 = .ok (.iconst 1, 1) := by decide +kernel
theorem dL_law_363 : decode cL_law 363 = .ok (.iadd, 1) := by decide +kernel
theorem dL_law_364 : decode cL_law 364 = .ok (.iaload, 1) := by decide +kernel
theorem dL_law_365 : decode cL_law 365 = .ok (.aload_n 0, 1) := by decide +kernel
theorem dL_law_366 : decode cL_law 366 = .ok (.iload_n 3, 1) := by decide +kernel
theorem dL_law_367 : decode cL_law 367 = .ok (.iconst 2, 1) := by decide +kernel
theorem dL_law_368 : decode cL_law 368 = .ok (.iadd, 1) := by decide +kernel
theorem dL_law_369 : decode cL_law 369 = .ok (.iaload, 1) := by decide +kernel
theorem dL_law_370 : decode cL_law 370 = .ok (.invokevirtual 47, 3) := by decide +kernel
theorem dL_law_373 : decode cL_law 373 = .ok (.if_icmp .eq 655, 3) := by decide +kernel
theorem dL_law_376 : decode cL_law 376 = .ok (.iconst 0, 1) := by decide +kernel
theorem dL_law_377 : decode cL_law 377 = .ok (.ireturn, 1) := by decide +kernel
theorem dL_law_378 : decode cL_law 378 = .ok (.aload_n 1, 1) := by decide +kernel
theorem dL_law_379 : decode cL_law 379 = .ok (.aload_n 0, 1) := by decide +kernel
theorem dL_law_380 : decode cL_law 380 = .ok (.iload_n 3, 1) := by decide +kernel
theorem dL_law_381 : decode cL_law 381 = .ok (.iconst 1, 1) := by decide +kernel
theorem dL_law_382 : decode cL_law 382 = .ok (.iadd, 1) := by decide +kernel
theorem dL_law_383 : decode cL_law 383 = .ok (.iaload, 1) := by decide +kernel
theorem dL_law_384 : decode cL_law 384 = .ok (.invokevirtual 48, 3) := by decide +kernel
theorem dL_law_387 : decode cL_law 387 = .ok (.aload_n 2, 1) := by decide +kernel
theorem dL_law_388 : decode cL_law 388 = .ok (.aload_n 0, 1) := by decide +kernel
theorem dL_law_389 : decode cL_law 389 = .ok (.iload_n 3, 1) := by decide +kernel
theorem dL_law_390 : decode cL_law 390 = .ok (.iconst 1, 1) := by decide +kernel
theorem dL_law_391 : decode cL_law 391 = .ok (.iadd, 1) := by decide +kernel
theorem dL_law_392 : decode cL_law 392 = .ok (.iaload, 1) := by decide +kernel
theorem dL_law_393 : decode cL_law 393 = .ok (.invokevirtual 51, 3) := by decide +kernel
theorem dL_law_396 : decode cL_law 396 = .ok (.if_icmp .eq 632, 3) := by decide +kernel
theorem dL_law_399 : decode cL_law 399 = .ok (.iconst 0, 1) := by decide +kernel
theorem dL_law_400 : decode cL_law 400 = .ok (.ireturn, 1) := by decide +kernel
theorem dL_law_401 : decode cL_law 401 = .ok (.aload_n 1, 1) := by decide +kernel
theorem dL_law_402 : decode cL_law 402 = .ok (.aload_n 0, 1) := by decide +kernel
theorem dL_law_403 : decode cL_law 403 = .ok (.iload_n 3, 1) := by decide +kernel
theorem dL_law_404 : decode cL_law 404 = .ok (.iconst 1, 1) := by decide +kernel
theorem dL_law_405 : decode cL_law 405 = .ok (.iadd, 1) := by decide +kernel
theorem dL_law_406 : decode cL_law 406 = .ok (.iaload, 1) := by decide +kernel
theorem dL_law_407 : decode cL_law 407 = .ok (.invokevirtual 52, 3) := by decide +kernel
theorem dL_law_410 : decode cL_law 410 = .ok (.aload_n 2, 1) := by decide +kernel
theorem dL_law_411 : decode cL_law 411 = .ok (.aload_n 0, 1) := by decide +kernel
theorem dL_law_412 : decode cL_law 412 = .ok (.iload_n 3, 1) := by decide +kernel
theorem dL_law_413 : decode cL_law 413 = .ok (.iconst 1, 1) := by decide +kernel
theorem dL_law_414 : decode cL_law 414 = .ok (.iadd, 1) := by decide +kernel
theorem dL_law_415 : decode cL_law 415 = .ok (.iaload, 1) := by decide +kernel
theorem dL_law_416 : decode cL_law 416 = .ok (.invokevirtual 55, 3) := by decide +kernel
theorem dL_law_419 : decode cL_law 419 = .ok (.if_icmp .eq 609, 3) := by decide +kernel
theorem dL_law_422 : decode cL_law 422 = .ok (.iconst 0, 1) := by decide +kernel
theorem dL_law_423 : decode cL_law 423 = .ok (.ireturn, 1) := by decide +kernel
theorem dL_law_424 : decode cL_law 424 = .ok (.aload_n 1, 1) := by decide +kernel
theorem dL_law_425 : decode cL_law 425 = .ok (.aload_n 0, 1) := by decide +kernel
theorem dL_law_426 : decode cL_law 426 = .ok (.iload_n 3, 1) := by decide +kernel
theorem dL_law_427 : decode cL_law 427 = .ok (.iconst 1, 1) := by decide +kernel
theorem dL_law_428 : decode cL_law 428 = .ok (.iadd, 1) := by decide +kernel
theorem dL_law_429 : decode cL_law 429 = .ok (.iaload, 1) := by decide +kernel
theorem dL_law_430 : decode cL_law 430 = .ok (.invokevirtual 56, 3) := by decide +kernel
theorem dL_law_433 : decode cL_law 433 = .ok (.aload_n 2, 1) := by decide +kernel
theorem dL_law_434 : decode cL_law 434 = .ok (.aload_n 0, 1) := by decide +kernel
theorem dL_law_435 : decode cL_law 435 = .ok (.iload_n 3, 1) := by decide +kernel
theorem dL_law_436 : decode cL_law 436 = .ok (.iconst 1, 1) := by decide +kernel
theorem dL_law_437 : decode cL_law 437 = .ok (.iadd, 1) := by decide +kernel
theorem dL_law_438 : decode cL_law 438 = .ok (.iaload, 1) := by decide +kernel
theorem dL_law_439 : decode cL_law 439 = .ok (.invokevirtual 59, 3) := by decide +kernel
theorem dL_law_442 : decode cL_law 442 = .ok (.if_icmp .eq 586, 3) := by decide +kernel
theorem dL_law_445 : decode cL_law 445 = .ok (.iconst 0, 1) := by decide +kernel
theorem dL_law_446 : decode cL_law 446 = .ok (.ireturn, 1) := by decide +kernel
theorem dL_law_447 : decode cL_law 447 = .ok (.aload_n 1, 1) := by decide +kernel
theorem dL_law_448 : decode cL_law 448 = .ok (.aload_n 0, 1) := by decide +kernel
theorem dL_law_449 : decode cL_law 449 = .ok (.iload_n 3, 1) := by decide +kernel
theorem dL_law_450 : decode cL_law 450 = .ok (.iconst 1, 1) := by decide +kernel
theorem dL_law_451 : decode cL_law 451 = .ok (.iadd, 1) := by decide +kernel
theorem dL_law_452 : decode cL_law 452 = .ok (.iaload, 1) := by decide +kernel
theorem dL_law_453 : decode cL_law 453 = .ok (.aload_n 0, 1) := by decide +kernel
theorem dL_law_454 : decode cL_law 454 = .ok (.iload_n 3, 1) := by decide +kernel
theorem dL_law_455 : decode cL_law 455 = .ok (.iconst 2, 1) := by decide +kernel
theorem dL_law_456 : decode cL_law 456 = .ok (.iadd, 1) := by decide +kernel
theorem dL_law_457 : decode cL_law 457 = .ok (.iaload, 1) := by decide +kernel
theorem dL_law_458 : decode cL_law 458 = .ok (.invokevirtual 60, 3) := by decide +kernel
theorem dL_law_461 : decode cL_law 461 = .ok (.aload_n 2, 1) := by decide +kernel
theorem dL_law_462 : decode cL_law 462 = .ok (.aload_n 0, 1) := by decide +kernel
theorem dL_law_463 : decode cL_law 463 = .ok (.iload_n 3, 1) := by decide +kernel
theorem dL_law_464 : decode cL_law 464 = .ok (.iconst 1, 1) := by decide +kernel
theorem dL_law_465 : decode cL_law 465 = .ok (.iadd, 1) := by decide +kernel
theorem dL_law_466 : decode cL_law 466 = .ok (.iaload, 1) := by decide +kernel
theorem dL_law_467 : decode cL_law 467 = .ok (.aload_n 0, 1) := by decide +kernel
theorem dL_law_468 : decode cL_law 468 = .ok (.iload_n 3, 1) := by decide +kernel
theorem dL_law_469 : decode cL_law 469 = .ok (.iconst 2, 1) := by decide +kernel
theorem dL_law_470 : decode cL_law 470 = .ok (.iadd, 1) := by decide +kernel
theorem dL_law_471 : decode cL_law 471 = .ok (.iaload, 1) := by decide +kernel
theorem dL_law_472 : decode cL_law 472 = .ok (.invokevirtual 63, 3) := by decide +kernel
theorem dL_law_475 : decode cL_law 475 = .ok (.if_icmp .eq 553, 3) := by decide +kernel
theorem dL_law_478 : decode cL_law 478 = .ok (.iconst 0, 1) := by decide +kernel
theorem dL_law_479 : decode cL_law 479 = .ok (.ireturn, 1) := by decide +kernel
theorem dL_law_480 : decode cL_law 480 = .ok (.aload_n 1, 1) := by decide +kernel
theorem dL_law_481 : decode cL_law 481 = .ok (.aload_n 0, 1) := by decide +kernel
theorem dL_law_482 : decode cL_law 482 = .ok (.iload_n 3, 1) := by decide +kernel
theorem dL_law_483 : decode cL_law 483 = .ok (.iconst 1, 1) := by decide +kernel
theorem dL_law_484 : decode cL_law 484 = .ok (.iadd, 1) := by decide +kernel
theorem dL_law_485 : decode cL_law 485 = .ok (.iaload, 1) := by decide +kernel
theorem dL_law_486 : decode cL_law 486 = .ok (.ifCond .eq 7, 3) := by decide +kernel
theorem dL_law_489 : decode cL_law 489 = .ok (.iconst 1, 1) := by decide +kernel
theorem dL_law_490 : decode cL_law 490 = .ok (.goto 4, 3) := by decide +kernel
theorem dL_law_493 : decode cL_law 493 = .ok (.iconst 0, 1) := by decide +kernel
theorem dL_law_494 : decode cL_law 494 = .ok (.invokevirtual 64, 3) := by decide +kernel
theorem dL_law_497 : decode cL_law 497 = .ok (.aload_n 2, 1) := by decide +kernel
theorem dL_law_498 : decode cL_law 498 = .ok (.aload_n 0, 1) := by decide +kernel
theorem dL_law_499 : decode cL_law 499 = .ok (.iload_n 3, 1) := by decide +kernel
theorem dL_law_500 : decode cL_law 500 = .ok (.iconst 1, 1) := by decide +kernel
theorem dL_law_501 : decode cL_law 501 = .ok (.iadd, 1) := by decide +kernel
theorem dL_law_502 : decode cL_law 502 = .ok (.iaload, 1) := by decide +kernel
theorem dL_law_503 : decode cL_law 503 = .ok (.ifCond .eq 7, 3) := by decide +kernel
theorem dL_law_506 : decode cL_law 506 = .ok (.iconst 1, 1) := by decide +kernel
theorem dL_law_507 : decode cL_law 507 = .ok (.goto 4, 3) := by decide +kernel
theorem dL_law_510 : decode cL_law 510 = .ok (.iconst 0, 1) := by decide +kernel
theorem dL_law_511 : decode cL_law 511 = .ok (.invokevirtual 68, 3) := by decide +kernel
theorem dL_law_514 : decode cL_law 514 = .ok (.if_icmp .eq 514, 3) := by decide +kernel
theorem dL_law_517 : decode cL_law 517 = .ok (.iconst 0, 1) := by decide +kernel
theorem dL_law_518 : decode cL_law 518 = .ok (.ireturn, 1) := by decide +kernel
theorem dL_law_519 : decode cL_law 519 = .ok (.aload_n 1, 1) := by decide +kernel
theorem dL_law_520 : decode cL_law 520 = .ok (.aload_n 0, 1) := by decide +kernel
theorem dL_law_521 : decode cL_law 521 = .ok (.iload_n 3, 1) := by decide +kernel
theorem dL_law_522 : decode cL_law 522 = .ok (.iconst 1, 1) := by decide +kernel
theorem dL_law_523 : decode cL_law 523 = .ok (.iadd, 1) := by decide +kernel
theorem dL_law_524 : decode cL_law 524 = .ok (.iaload, 1) := by decide +kernel
theorem dL_law_525 : decode cL_law 525 = .ok (.invokevirtual 69, 3) := by decide +kernel
theorem dL_law_528 : decode cL_law 528 = .ok (.aload_n 2, 1) := by decide +kernel
theorem dL_law_529 : decode cL_law 529 = .ok (.aload_n 0, 1) := by decide +kernel
theorem dL_law_530 : decode cL_law 530 = .ok (.iload_n 3, 1) := by decide +kernel
theorem dL_law_531 : decode cL_law 531 = .ok (.iconst 1, 1) := by decide +kernel
theorem dL_law_532 : decode cL_law 532 = .ok (.iadd, 1) := by decide +kernel
theorem dL_law_533 : decode cL_law 533 = .ok (.iaload, 1) := by decide +kernel
theorem dL_law_534 : decode cL_law 534 = .ok (.invokevirtual 72, 3) := by decide +kernel
theorem dL_law_537 : decode cL_law 537 = .ok (.if_icmp .eq 491, 3) := by decide +kernel
theorem dL_law_540 : decode cL_law 540 = .ok (.iconst 0, 1) := by decide +kernel
theorem dL_law_541 : decode cL_law 541 = .ok (.ireturn, 1) := by decide +kernel
theorem dL_law_542 : decode cL_law 542 = .ok (.aload_n 1, 1) := by decide +kernel
theorem dL_law_543 : decode cL_law 543 = .ok (.aload_n 0, 1) := by decide +kernel
theorem dL_law_544 : decode cL_law 544 = .ok (.iload_n 3, 1) := by decide +kernel
theorem dL_law_545 : decode cL_law 545 = .ok (.iconst 1, 1) := by decide +kernel
theorem dL_law_546 : decode cL_law 546 = .ok (.iadd, 1) := by decide +kernel
theorem dL_law_547 : decode cL_law 547 = .ok (.iaload, 1) := by decide +kernel
theorem dL_law_548 : decode cL_law 548 = .ok (.invokevirtual 73, 3) := by decide +kernel
theorem dL_law_551 : decode cL_law 551 = .ok (.aload_n 2, 1) := by decide +kernel
theorem dL_law_552 : decode cL_law 552 = .ok (.aload_n 0, 1) := by decide +kernel
theorem dL_law_553 : decode cL_law 553 = .ok (.iload_n 3, 1) := by decide +kernel
theorem dL_law_554 : decode cL_law 554 = .ok (.iconst 1, 1) := by decide +kernel
theorem dL_law_555 : decode cL_law 555 = .ok (.iadd, 1) := by decide +kernel
theorem dL_law_556 : decode cL_law 556 = .ok (.iaload, 1) := by decide +kernel
theorem dL_law_557 : decode cL_law 557 = .ok (.invokevirtual 76, 3) := by decide +kernel
theorem dL_law_560 : decode cL_law 560 = .ok (.if_icmp .eq 468, 3) := by decide +kernel
theorem dL_law_563 : decode cL_law 563 = .ok (.iconst 0, 1) := by decide +kernel
theorem dL_law_564 : decode cL_law 564 = .ok (.ireturn, 1) := by decide +kernel
theorem dL_law_565 : decode cL_law 565 = .ok (.aload_n 1, 1) := by decide +kernel
theorem dL_law_566 : decode cL_law 566 = .ok (.aload_n 0, 1) := by decide +kernel
theorem dL_law_567 : decode cL_law 567 = .ok (.iload_n 3, 1) := by decide +kernel
theorem dL_law_568 : decode cL_law 568 = .ok (.iconst 1, 1) := by decide +kernel
theorem dL_law_569 : decode cL_law 569 = .ok (.iadd, 1) := by decide +kernel
theorem dL_law_570 : decode cL_law 570 = .ok (.iaload, 1) := by decide +kernel
theorem dL_law_571 : decode cL_law 571 = .ok (.invokevirtual 77, 3) := by decide +kernel
theorem dL_law_574 : decode cL_law 574 = .ok (.aload_n 2, 1) := by decide +kernel
theorem dL_law_575 : decode cL_law 575 = .ok (.aload_n 0, 1) := by decide +kernel
theorem dL_law_576 : decode cL_law 576 = .ok (.iload_n 3, 1) := by decide +kernel
theorem dL_law_577 : decode cL_law 577 = .ok (.iconst 1, 1) := by decide +kernel
theorem dL_law_578 : decode cL_law 578 = .ok (.iadd, 1) := by decide +kernel
theorem dL_law_579 : decode cL_law 579 = .ok (.iaload, 1) := by decide +kernel
theorem dL_law_580 : decode cL_law 580 = .ok (.invokevirtual 80, 3) := by decide +kernel
theorem dL_law_583 : decode cL_law 583 = .ok (.if_icmp .eq 445, 3) := by decide +kernel
theorem dL_law_586 : decode cL_law 586 = .ok (.iconst 0, 1) := by decide +kernel
theorem dL_law_587 : decode cL_law 587 = .ok (.ireturn, 1) := by decide +kernel
theorem dL_law_588 : decode cL_law 588 = .ok (.aload_n 1, 1) := by decide +kernel
theorem dL_law_589 : decode cL_law 589 = .ok (.aload_n 0, 1) := by decide +kernel
theorem dL_law_590 : decode cL_law 590 = .ok (.iload_n 3, 1) := by decide +kernel
theorem dL_law_591 : decode cL_law 591 = .ok (.iconst 1, 1) := by decide +kernel
theorem dL_law_592 : decode cL_law 592 = .ok (.iadd, 1) := by decide +kernel
theorem dL_law_593 : decode cL_law 593 = .ok (.iaload, 1) := by decide +kernel
theorem dL_law_594 : decode cL_law 594 = .ok (.invokevirtual 81, 3) := by decide +kernel
theorem dL_law_597 : decode cL_law 597 = .ok (.aload_n 2, 1) := by decide +kernel
theorem dL_law_598 : decode cL_law 598 = .ok (.aload_n 0, 1) := by decide +kernel
theorem dL_law_599 : decode cL_law 599 = .ok (.iload_n 3, 1) := by decide +kernel
theorem dL_law_600 : decode cL_law 600 = .ok (.iconst 1, 1) := by decide +kernel
theorem dL_law_601 : decode cL_law 601 = .ok (.iadd, 1) := by decide +kernel
theorem dL_law_602 : decode cL_law 602 = .ok (.iaload, 1) := by decide +kernel
theorem dL_law_603 : decode cL_law 603 = .ok (.invokevirtual 84, 3) := by decide +kernel
theorem dL_law_606 : decode cL_law 606 = .ok (.if_icmp .eq 422, 3) := by decide +kernel
theorem dL_law_609 : decode cL_law 609 = .ok (.iconst 0, 1) := by decide +kernel
theorem dL_law_610 : decode cL_law 610 = .ok (.ireturn, 1) := by decide +kernel
theorem dL_law_611 : decode cL_law 611 = .ok (.aload_n 1, 1) := by decide +kernel
theorem dL_law_612 : decode cL_law 612 = .ok (.aload_n 0, 1) := by decide +kernel
theorem dL_law_613 : decode cL_law 613 = .ok (.iload_n 3, 1) := by decide +kernel
theorem dL_law_614 : decode cL_law 614 = .ok (.iconst 1, 1) := by decide +kernel
theorem dL_law_615 : decode cL_law 615 = .ok (.iadd, 1) := by decide +kernel
theorem dL_law_616 : decode cL_law 616 = .ok (.iaload, 1) := by decide +kernel
theorem dL_law_617 : decode cL_law 617 = .ok (.invokevirtual 85, 3) := by decide +kernel
theorem dL_law_620 : decode cL_law 620 = .ok (.aload_n 2, 1) := by decide +kernel
theorem dL_law_621 : decode cL_law 621 = .ok (.aload_n 0, 1) := by decide +kernel
theorem dL_law_622 : decode cL_law 622 = .ok (.iload_n 3, 1) := by decide +kernel
theorem dL_law_623 : decode cL_law 623 = .ok (.iconst 1, 1) := by decide +kernel
theorem dL_law_624 : decode cL_law 624 = .ok (.iadd, 1) := by decide +kernel
theorem dL_law_625 : decode cL_law 625 = .ok (.iaload, 1) := by decide +kernel
theorem dL_law_626 : decode cL_law 626 = .ok (.invokevirtual 88, 3) := by decide +kernel
theorem dL_law_629 : decode cL_law 629 = .ok (.if_icmp .eq 399, 3) := by decide +kernel
theorem dL_law_632 : decode cL_law 632 = .ok (.iconst 0, 1) := by decide +kernel
theorem dL_law_633 : decode cL_law 633 = .ok (.ireturn, 1) := by decide +kernel
theorem dL_law_634 : decode cL_law 634 = .ok (.aload_n 1, 1) := by decide +kernel
theorem dL_law_635 : decode cL_law 635 = .ok (.aload_n 0, 1) := by decide +kernel
theorem dL_law_636 : decode cL_law 636 = .ok (.iload_n 3, 1) := by decide +kernel
theorem dL_law_637 : decode cL_law 637 = .ok (.iconst 1, 1) := by decide +kernel
theorem dL_law_638 : decode cL_law 638 = .ok (.iadd, 1) := by decide +kernel
theorem dL_law_639 : decode cL_law 639 = .ok (.iaload, 1) := by decide +kernel
theorem dL_law_640 : decode cL_law 640 = .ok (.invokevirtual 89, 3) := by decide +kernel
theorem dL_law_643 : decode cL_law 643 = .ok (.aload_n 2, 1) := by decide +kernel
theorem dL_law_644 : decode cL_law 644 = .ok (.aload_n 0, 1) := by decide +kernel
theorem dL_law_645 : decode cL_law 645 = .ok (.iload_n 3, 1) := by decide +kernel
theorem dL_law_646 : decode cL_law 646 = .ok (.iconst 1, 1) := by decide +kernel
theorem dL_law_647 : decode cL_law 647 = .ok (.iadd, 1) := by decide +kernel
theorem dL_law_648 : decode cL_law 648 = .ok (.iaload, 1) := by decide +kernel
theorem dL_law_649 : decode cL_law 649 = .ok (.invokevirtual 92, 3) := by decide +kernel
theorem dL_law_652 : decode cL_law 652 = .ok (.if_icmp .eq 376, 3) := by decide +kernel
theorem dL_law_655 : decode cL_law 655 = .ok (.iconst 0, 1) := by decide +kernel
theorem dL_law_656 : decode cL_law 656 = .ok (.ireturn, 1) := by decide +kernel
theorem dL_law_657 : decode cL_law 657 = .ok (.aload_n 1, 1) := by decide +kernel
theorem dL_law_658 : decode cL_law 658 = .ok (.aload_n 0, 1) := by decide +kernel
theorem dL_law_659 : decode cL_law 659 = .ok (.iload_n 3, 1) := by decide +kernel
theorem dL_law_660 : decode cL_law 660 = .ok (.iconst 1, 1) := by decide +kernel
theorem dL_law_661 : decode cL_law 661 = .ok (.iadd, 1) := by decide +kernel
theorem dL_law_662 : decode cL_law 662 = .ok (.iaload, 1) := by decide +kernel
theorem dL_law_663 : decode cL_law 663 = .ok (.aload_n 0, 1) := by decide +kernel
theorem dL_law_664 : decode cL_law 664 = .ok (.iload_n 3, 1) := by decide +kernel
theorem dL_law_665 : decode cL_law 665 = .ok (.iconst 2, 1) := by decide +kernel
theorem dL_law_666 : decode cL_law 666 = .ok (.iadd, 1) := by decide +kernel
theorem dL_law_667 : decode cL_law 667 = .ok (.iaload, 1) := by decide +kernel
theorem dL_law_668 : decode cL_law 668 = .ok (.invokevirtual 93, 3) := by decide +kernel
theorem dL_law_671 : decode cL_law 671 = .ok (.aload_n 2, 1) := by decide +kernel
theorem dL_law_672 : decode cL_law 672 = .ok (.aload_n 0, 1) := by decide +kernel
theorem dL_law_673 : decode cL_law 673 = .ok (.iload_n 3, 1) := by decide +kernel
theorem dL_law_674 : decode cL_law 674 = .ok (.iconst 1, 1) := by decide +kernel
theorem dL_law_675 : decode cL_law 675 = .ok (.iadd, 1) := by decide +kernel
theorem dL_law_676 : decode cL_law 676 = .ok (.iaload, 1) := by decide +kernel
theorem dL_law_677 : decode cL_law 677 = .ok (.aload_n 0, 1) := by decide +kernel
theorem dL_law_678 : decode cL_law 678 = .ok (.iload_n 3, 1) := by decide +kernel
theorem dL_law_679 : decode cL_law 679 = .ok (.iconst 2, 1) := by decide +kernel
theorem dL_law_680 : decode cL_law 680 = .ok (.iadd, 1) := by decide +kernel
theorem dL_law_681 : decode cL_law 681 = .ok (.iaload, 1) := by decide +kernel
theorem dL_law_682 : decode cL_law 682 = .ok (.invokevirtual 96, 3) := by decide +kernel
theorem dL_law_685 : decode cL_law 685 = .ok (.if_icmp .eq 343, 3) := by decide +kernel
theorem dL_law_688 : decode cL_law 688 = .ok (.iconst 0, 1) := by decide +kernel
theorem dL_law_689 : decode cL_law 689 = .ok (.ireturn, 1) := by decide +kernel
theorem dL_law_690 : decode cL_law 690 = .ok (.aload_n 1, 1) := by decide +kernel
theorem dL_law_691 : decode cL_law 691 = .ok (.aload_n 0, 1) := by decide +kernel
theorem dL_law_692 : decode cL_law 692 = .ok (.iload_n 3, 1) := by decide +kernel
theorem dL_law_693 : decode cL_law 693 = .ok (.iconst 1, 1) := by decide +kernel
theorem dL_law_694 : decode cL_law 694 = .ok (.iadd, 1) := by decide +kernel
theorem dL_law_695 : decode cL_law 695 = .ok (.iaload, 1) := by decide +kernel
theorem dL_law_696 : decode cL_law 696 = .ok (.invokevirtual 97, 3) := by decide +kernel
theorem dL_law_699 : decode cL_law 699 = .ok (.aload_n 2, 1) := by decide +kernel
theorem dL_law_700 : decode cL_law 700 = .ok (.aload_n 0, 1) := by decide +kernel
theorem dL_law_701 : decode cL_law 701 = .ok (.iload_n 3, 1) := by decide +kernel
theorem dL_law_702 : decode cL_law 702 = .ok (.iconst 1, 1) := by decide +kernel
theorem dL_law_703 : decode cL_law 703 = .ok (.iadd, 1) := by decide +kernel
theorem dL_law_704 : decode cL_law 704 = .ok (.iaload, 1) := by decide +kernel
theorem dL_law_705 : decode cL_law 705 = .ok (.invokevirtual 100, 3) := by decide +kernel
theorem dL_law_708 : decode cL_law 708 = .ok (.if_icmp .eq 320, 3) := by decide +kernel
theorem dL_law_711 : decode cL_law 711 = .ok (.iconst 0, 1) := by decide +kernel
theorem dL_law_712 : decode cL_law 712 = .ok (.ireturn, 1) := by decide +kernel
theorem dL_law_713 : decode cL_law 713 = .ok (.aload_n 1, 1) := by decide +kernel
theorem dL_law_714 : decode cL_law 714 = .ok (.aload_n 0, 1) := by decide +kernel
theorem dL_law_715 : decode cL_law 715 = .ok (.iload_n 3, 1) := by decide +kernel
theorem dL_law_716 : decode cL_law 716 = .ok (.iconst 1, 1) := by decide +kernel
theorem dL_law_717 : decode cL_law 717 = .ok (.iadd, 1) := by decide +kernel
theorem dL_law_718 : decode cL_law 718 = .ok (.iaload, 1) := by decide +kernel
theorem dL_law_719 : decode cL_law 719 = .ok (.invokevirtual 101, 3) := by decide +kernel
theorem dL_law_722 : decode cL_law 722 = .ok (.aload_n 2, 1) := by decide +kernel
theorem dL_law_723 : decode cL_law 723 = .ok (.aload_n 0, 1) := by decide +kernel
theorem dL_law_724 : decode cL_law 724 = .ok (.iload_n 3, 1) := by decide +kernel
theorem dL_law_725 : decode cL_law 725 = .ok (.iconst 1, 1) := by decide +kernel
theorem dL_law_726 : decode cL_law 726 = .ok (.iadd, 1) := by decide +kernel
theorem dL_law_727 : decode cL_law 727 = .ok (.iaload, 1) := by decide +kernel
theorem dL_law_728 : decode cL_law 728 = .ok (.invokevirtual 104, 3) := by decide +kernel
theorem dL_law_731 : decode cL_law 731 = .ok (.if_icmp .eq 297, 3) := by decide +kernel
theorem dL_law_734 : decode cL_law 734 = .ok (.iconst 0, 1) := by decide +kernel
theorem dL_law_735 : decode cL_law 735 = .ok (.ireturn, 1) := by decide +kernel
theorem dL_law_736 : decode cL_law 736 = .ok (.aload_n 1, 1) := by decide +kernel
theorem dL_law_737 : decode cL_law 737 = .ok (.aload_n 0, 1) := by decide +kernel
theorem dL_law_738 : decode cL_law 738 = .ok (.iload_n 3, 1) := by decide +kernel
theorem dL_law_739 : decode cL_law 739 = .ok (.iconst 1, 1) := by decide +kernel
theorem dL_law_740 : decode cL_law 740 = .ok (.iadd, 1) := by decide +kernel
theorem dL_law_741 : decode cL_law 741 = .ok (.iaload, 1) := by decide +kernel
theorem dL_law_742 : decode cL_law 742 = .ok (.invokevirtual 105, 3) := by decide +kernel
theorem dL_law_745 : decode cL_law 745 = .ok (.aload_n 2, 1) := by decide +kernel
theorem dL_law_746 : decode cL_law 746 = .ok (.aload_n 0, 1) := by decide +kernel
theorem dL_law_747 : decode cL_law 747 = .ok (.iload_n 3, 1) := by decide +kernel
theorem dL_law_748 : decode cL_law 748 = .ok (.iconst 1, 1) := by decide +kernel
theorem dL_law_749 : decode cL_law 749 = .ok (.iadd, 1) := by decide +kernel
theorem dL_law_750 : decode cL_law 750 = .ok (.iaload, 1) := by decide +kernel
theorem dL_law_751 : decode cL_law 751 = .ok (.invokevirtual 108, 3) := by decide +kernel
theorem dL_law_754 : decode cL_law 754 = .ok (.if_icmp .eq 274, 3) := by decide +kernel
theorem dL_law_757 : decode cL_law 757 = .ok (.iconst 0, 1) := by decide +kernel
theorem dL_law_758 : decode cL_law 758 = .ok (.ireturn, 1) := by decide +kernel
theorem dL_law_759 : decode cL_law 759 = .ok (.aload_n 1, 1) := by decide +kernel
theorem dL_law_760 : decode cL_law 760 = .ok (.aload_n 0, 1) := by decide +kernel
theorem dL_law_761 : decode cL_law 761 = .ok (.iload_n 3, 1) := by decide +kernel
theorem dL_law_762 : decode cL_law 762 = .ok (.iconst 1, 1) := by decide +kernel
theorem dL_law_763 : decode cL_law 763 = .ok (.iadd, 1) := by decide +kernel
theorem dL_law_764 : decode cL_law 764 = .ok (.iaload, 1) := by decide +kernel
theorem dL_law_765 : decode cL_law 765 = .ok (.invokevirtual 109, 3) := by decide +kernel
theorem dL_law_768 : decode cL_law 768 = .ok (.aload_n 2, 1) := by decide +kernel
theorem dL_law_769 : decode cL_law 769 = .ok (.aload_n 0, 1) := by decide +kernel
theorem dL_law_770 : decode cL_law 770 = .ok (.iload_n 3, 1) := by decide +kernel
theorem dL_law_771 : decode cL_law 771 = .ok (.iconst 1, 1) := by decide +kernel
theorem dL_law_772 : decode cL_law 772 = .ok (.iadd, 1) := by decide +kernel
theorem dL_law_773 : decode cL_law 773 = .ok (.iaload, 1) := by decide +kernel
theorem dL_law_774 : decode cL_law 774 = .ok (.invokevirtual 112, 3) := by decide +kernel
theorem dL_law_777 : decode cL_law 777 = .ok (.if_icmp .eq 251, 3) := by decide +kernel
theorem dL_law_780 : decode cL_law 780 = .ok (.iconst 0, 1) := by decide +kernel
theorem dL_law_781 : decode cL_law 781 = .ok (.ireturn, 1) := by decide +kernel
theorem dL_law_782 : decode cL_law 782 = .ok (.aload_n 1, 1) := by decide +kernel
theorem dL_law_783 : decode cL_law 783 = .ok (.aload_n 0, 1) := by decide +kernel
theorem dL_law_784 : decode cL_law 784 = .ok (.iload_n 3, 1) := by decide +kernel
theorem dL_law_785 : decode cL_law 785 = .ok (.iconst 1, 1) := by decide +kernel
theorem dL_law_786 : decode cL_law 786 = .ok (.iadd, 1) := by decide +kernel
theorem dL_law_787 : decode cL_law 787 = .ok (.iaload, 1) := by decide +kernel
theorem dL_law_788 : decode cL_law 788 = .ok (.aload_n 0, 1) := by decide +kernel
theorem dL_law_789 : decode cL_law 789 = .ok (.iload_n 3, 1) := by decide +kernel
theorem dL_law_790 : decode cL_law 790 = .ok (.iconst 2, 1) := by decide +kernel
theorem dL_law_791 : decode cL_law 791 = .ok (.iadd, 1) := by decide +kernel
theorem dL_law_792 : decode cL_law 792 = .ok (.iaload, 1) := by decide +kernel
theorem dL_law_793 : decode cL_law 793 = .ok (.invokevirtual 113, 3) := by decide +kernel
theorem dL_law_796 : decode cL_law 796 = .ok (.aload_n 2, 1) := by decide +kernel
theorem dL_law_797 : decode cL_law 797 = .ok (.aload_n 0, 1) := by decide +kernel
theorem dL_law_798 : decode cL_law 798 = .ok (.iload_n 3, 1) := by decide +kernel
theorem dL_law_799 : decode cL_law 799 = .ok (.iconst 1, 1) := by decide +kernel
theorem dL_law_800 : decode cL_law 800 = .ok (.iadd, 1) := by decide +kernel
theorem dL_law_801 : decode cL_law 801 = .ok (.iaload, 1) := by decide +kernel
theorem dL_law_802 : decode cL_law 802 = .ok (.aload_n 0, 1) := by decide +kernel
theorem dL_law_803 : decode cL_law 803 = .ok (.iload_n 3, 1) := by decide +kernel
theorem dL_law_804 : decode cL_law 804 = .ok (.iconst 2, 1) := by decide +kernel
theorem dL_law_805 : decode cL_law 805 = .ok (.iadd, 1) := by decide +kernel
theorem dL_law_806 : decode cL_law 806 = .ok (.iaload, 1) := by decide +kernel
theorem dL_law_807 : decode cL_law 807 = .ok (.invokevirtual 116, 3) := by decide +kernel
theorem dL_law_810 : decode cL_law 810 = .ok (.if_icmp .eq 218, 3) := by decide +kernel
theorem dL_law_813 : decode cL_law 813 = .ok (.iconst 0, 1) := by decide +kernel
theorem dL_law_814 : decode cL_law 814 = .ok (.ireturn, 1) := by decide +kernel
theorem dL_law_815 : decode cL_law 815 = .ok (.aload_n 1, 1) := by decide +kernel
theorem dL_law_816 : decode cL_law 816 = .ok (.aload_n 0, 1) := by decide +kernel
theorem dL_law_817 : decode cL_law 817 = .ok (.iload_n 3, 1) := by decide +kernel
theorem dL_law_818 : decode cL_law 818 = .ok (.iconst 1, 1) := by decide +kernel
theorem dL_law_819 : decode cL_law 819 = .ok (.iadd, 1) := by decide +kernel
theorem dL_law_820 : decode cL_law 820 = .ok (.iaload, 1) := by decide +kernel
theorem dL_law_821 : decode cL_law 821 = .ok (.aload_n 0, 1) := by decide +kernel
theorem dL_law_822 : decode cL_law 822 = .ok (.iload_n 3, 1) := by decide +kernel
theorem dL_law_823 : decode cL_law 823 = .ok (.iconst 2, 1) := by decide +kernel
theorem dL_law_824 : decode cL_law 824 = .ok (.iadd, 1) := by decide +kernel
theorem dL_law_825 : decode cL_law 825 = .ok (.iaload, 1) := by decide +kernel
theorem dL_law_826 : decode cL_law 826 = .ok (.aload_n 0, 1) := by decide +kernel
theorem dL_law_827 : decode cL_law 827 = .ok (.iload_n 3, 1) := by decide +kernel
theorem dL_law_828 : decode cL_law 828 = .ok (.iconst 3, 1) := by decide +kernel
theorem dL_law_829 : decode cL_law 829 = .ok (.iadd, 1) := by decide +kernel
theorem dL_law_830 : decode cL_law 830 = .ok (.iaload, 1) := by decide +kernel
theorem dL_law_831 : decode cL_law 831 = .ok (.ifCond .eq 7, 3) := by decide +kernel
theorem dL_law_834 : decode cL_law 834 = .ok (.iconst 1, 1) := by decide +kernel
theorem dL_law_835 : decode cL_law 835 = .ok (.goto 4, 3) := by decide +kernel
theorem dL_law_838 : decode cL_law 838 = .ok (.iconst 0, 1) := by decide +kernel
theorem dL_law_839 : decode cL_law 839 = .ok (.invokevirtual 117, 3) := by decide +kernel
theorem dL_law_842 : decode cL_law 842 = .ok (.aload_n 2, 1) := by decide +kernel
theorem dL_law_843 : decode cL_law 843 = .ok (.aload_n 0, 1) := by decide +kernel
theorem dL_law_844 : decode cL_law 844 = .ok (.iload_n 3, 1) := by decide +kernel
theorem dL_law_845 : decode cL_law 845 = .ok (.iconst 1, 1) := by decide +kernel
theorem dL_law_846 : decode cL_law 846 = .ok (.iadd, 1) := by decide +kernel
theorem dL_law_847 : decode cL_law 847 = .ok (.iaload, 1) := by decide +kernel
theorem dL_law_848 : decode cL_law 848 = .ok (.aload_n 0, 1) := by decide +kernel
theorem dL_law_849 : decode cL_law 849 = .ok (.iload_n 3, 1) := by decide +kernel
theorem dL_law_850 : decode cL_law 850 = .ok (.iconst 2, 1) := by decide +kernel
theorem dL_law_851 : decode cL_law 851 = .ok (.iadd, 1) := by decide +kernel
theorem dL_law_852 : decode cL_law 852 = .ok (.iaload, 1) := by decide +kernel
theorem dL_law_853 : decode cL_law 853 = .ok (.aload_n 0, 1) := by decide +kernel
theorem dL_law_854 : decode cL_law 854 = .ok (.iload_n 3, 1) := by decide +kernel
theorem dL_law_855 : decode cL_law 855 = .ok (.iconst 3, 1) := by decide +kernel
theorem dL_law_856 : decode cL_law 856 = .ok (.iadd, 1) := by decide +kernel
theorem dL_law_857 : decode cL_law 857 = .ok (.iaload, 1) := by decide +kernel
theorem dL_law_858 : decode cL_law 858 = .ok (.ifCond .eq 7, 3) := by decide +kernel
theorem dL_law_861 : decode cL_law 861 = .ok (.iconst 1, 1) := by decide +kernel
theorem dL_law_862 : decode cL_law 862 = .ok (.goto 4, 3) := by decide +kernel
theorem dL_law_865 : decode cL_law 865 = .ok (.iconst 0, 1) := by decide +kernel
theorem dL_law_866 : decode cL_law 866 = .ok (.invokevirtual 121, 3) := by decide +kernel
theorem dL_law_869 : decode cL_law 869 = .ok (.if_icmp .eq 159, 3) := by decide +kernel
theorem dL_law_872 : decode cL_law 872 = .ok (.iconst 0, 1) := by decide +kernel
theorem dL_law_873 : decode cL_law 873 = .ok (.ireturn, 1) := by decide +kernel
theorem dL_law_874 : decode cL_law 874 = .ok (.aload_n 1, 1) := by decide +kernel
theorem dL_law_875 : decode cL_law 875 = .ok (.invokevirtual 122, 3) := by decide +kernel
theorem dL_law_878 : decode cL_law 878 = .ok (.aload_n 2, 1) := by decide +kernel
theorem dL_law_879 : decode cL_law 879 = .ok (.invokevirtual 125, 3) := by decide +kernel
theorem dL_law_882 : decode cL_law 882 = .ok (.if_icmp .eq 146, 3) := by decide +kernel
theorem dL_law_885 : decode cL_law 885 = .ok (.iconst 0, 1) := by decide +kernel
theorem dL_law_886 : decode cL_law 886 = .ok (.ireturn, 1) := by decide +kernel
theorem dL_law_887 : decode cL_law 887 = .ok (.aload_n 1, 1) := by decide +kernel
theorem dL_law_888 : decode cL_law 888 = .ok (.invokevirtual 126, 3) := by decide +kernel
theorem dL_law_891 : decode cL_law 891 = .ok (.aload_n 2, 1) := by decide +kernel
theorem dL_law_892 : decode cL_law 892 = .ok (.invokevirtual 129, 3) := by decide +kernel
theorem dL_law_895 : decode cL_law 895 = .ok (.if_icmp .eq 133, 3) := by decide +kernel
theorem dL_law_898 : decode cL_law 898 = .ok (.iconst 0, 1) := by decide +kernel
theorem dL_law_899 : decode cL_law 899 = .ok (.ireturn, 1) := by decide +kernel
theorem dL_law_900 : decode cL_law 900 = .ok (.aload_n 1, 1) := by decide +kernel
theorem dL_law_901 : decode cL_law 901 = .ok (.aload_n 0, 1) := by decide +kernel
theorem dL_law_902 : decode cL_law 902 = .ok (.iload_n 3, 1) := by decide +kernel
theorem dL_law_903 : decode cL_law 903 = .ok (.iconst 1, 1) := by decide +kernel
theorem dL_law_904 : decode cL_law 904 = .ok (.iadd, 1) := by decide +kernel
theorem dL_law_905 : decode cL_law 905 = .ok (.iaload, 1) := by decide +kernel
theorem dL_law_906 : decode cL_law 906 = .ok (.aload_n 0, 1) := by decide +kernel
theorem dL_law_907 : decode cL_law 907 = .ok (.iload_n 3, 1) := by decide +kernel
theorem dL_law_908 : decode cL_law 908 = .ok (.iconst 2, 1) := by decide +kernel
theorem dL_law_909 : decode cL_law 909 = .ok (.iadd, 1) := by decide +kernel
theorem dL_law_910 : decode cL_law 910 = .ok (.iaload, 1) := by decide +kernel
theorem dL_law_911 : decode cL_law 911 = .ok (.invokevirtual 130, 3) := by decide +kernel
theorem dL_law_914 : decode cL_law 914 = .ok (.aload_n 2, 1) := by decide +kernel
theorem dL_law_915 : decode cL_law 915 = .ok (.aload_n 0, 1) := by decide +kernel
theorem dL_law_916 : decode cL_law 916 = .ok (.iload_n 3, 1) := by decide +kernel
theorem dL_law_917 : decode cL_law 917 = .ok (.iconst 1, 1) := by decide +kernel
theorem dL_law_918 : decode cL_law 918 = .ok (.iadd, 1) := by decide +kernel
theorem dL_law_919 : decode cL_law 919 = .ok (.iaload, 1) := by decide +kernel
theorem dL_law_920 : decode cL_law 920 = .ok (.aload_n 0, 1) := by decide +kernel
theorem dL_law_921 : decode cL_law 921 = .ok (.iload_n 3, 1) := by decide +kernel
theorem dL_law_922 : decode cL_law 922 = .ok (.iconst 2, 1) := by decide +kernel
theorem dL_law_923 : decode cL_law 923 = .ok (.iadd, 1) := by decide +kernel
theorem dL_law_924 : decode cL_law 924 = .ok (.iaload, 1) := by decide +kernel
theorem dL_law_925 : decode cL_law 925 = .ok (.invokevirtual 133, 3) := by decide +kernel
theorem dL_law_928 : decode cL_law 928 = .ok (.if_icmp .eq 100, 3) := by decide +kernel
theorem dL_law_931 : decode cL_law 931 = .ok (.iconst 0, 1) := by decide +kernel
theorem dL_law_932 : decode cL_law 932 = .ok (.ireturn, 1) := by decide +kernel
theorem dL_law_933 : decode cL_law 933 = .ok (.aload_n 1, 1) := by decide +kernel
theorem dL_law_934 : decode cL_law 934 = .ok (.invokevirtual 134, 3) := by decide +kernel
theorem dL_law_937 : decode cL_law 937 = .ok (.aload_n 2, 1) := by decide +kernel
theorem dL_law_938 : decode cL_law 938 = .ok (.invokevirtual 137, 3) := by decide +kernel
theorem dL_law_941 : decode cL_law 941 = .ok (.if_icmp .eq 87, 3) := by decide +kernel
theorem dL_law_944 : decode cL_law 944 = .ok (.iconst 0, 1) := by decide +kernel
theorem dL_law_945 : decode cL_law 945 = .ok (.ireturn, 1) := by decide +kernel
theorem dL_law_946 : decode cL_law 946 = .ok (.aload_n 1, 1) := by decide +kernel
theorem dL_law_947 : decode cL_law 947 = .ok (.invokevirtual 138, 3) := by decide +kernel
theorem dL_law_950 : decode cL_law 950 = .ok (.aload_n 2, 1) := by decide +kernel
theorem dL_law_951 : decode cL_law 951 = .ok (.invokevirtual 141, 3) := by decide +kernel
theorem dL_law_954 : decode cL_law 954 = .ok (.if_icmp .eq 74, 3) := by decide +kernel
theorem dL_law_957 : decode cL_law 957 = .ok (.iconst 0, 1) := by decide +kernel
theorem dL_law_958 : decode cL_law 958 = .ok (.ireturn, 1) := by decide +kernel
theorem dL_law_959 : decode cL_law 959 = .ok (.aload_n 1, 1) := by decide +kernel
theorem dL_law_960 : decode cL_law 960 = .ok (.aload_n 0, 1) := by decide +kernel
theorem dL_law_961 : decode cL_law 961 = .ok (.iload_n 3, 1) := by decide +kernel
theorem dL_law_962 : decode cL_law 962 = .ok (.iconst 1, 1) := by decide +kernel
theorem dL_law_963 : decode cL_law 963 = .ok (.iadd, 1) := by decide +kernel
theorem dL_law_964 : decode cL_law 964 = .ok (.iaload, 1) := by decide +kernel
theorem dL_law_965 : decode cL_law 965 = .ok (.invokevirtual 142, 3) := by decide +kernel
theorem dL_law_968 : decode cL_law 968 = .ok (.aload_n 2, 1) := by decide +kernel
theorem dL_law_969 : decode cL_law 969 = .ok (.aload_n 0, 1) := by decide +kernel
theorem dL_law_970 : decode cL_law 970 = .ok (.iload_n 3, 1) := by decide +kernel
theorem dL_law_971 : decode cL_law 971 = .ok (.iconst 1, 1) := by decide +kernel
theorem dL_law_972 : decode cL_law 972 = .ok (.iadd, 1) := by decide +kernel
theorem dL_law_973 : decode cL_law 973 = .ok (.iaload, 1) := by decide +kernel
theorem dL_law_974 : decode cL_law 974 = .ok (.invokevirtual 145, 3) := by decide +kernel
theorem dL_law_977 : decode cL_law 977 = .ok (.if_icmp .eq 51, 3) := by decide +kernel
theorem dL_law_980 : decode cL_law 980 = .ok (.iconst 0, 1) := by decide +kernel
theorem dL_law_981 : decode cL_law 981 = .ok (.ireturn, 1) := by decide +kernel
theorem dL_law_982 : decode cL_law 982 = .ok (.aload_n 1, 1) := by decide +kernel
theorem dL_law_983 : decode cL_law 983 = .ok (.aload_n 0, 1) := by decide +kernel
theorem dL_law_984 : decode cL_law 984 = .ok (.iload_n 3, 1) := by decide +kernel
theorem dL_law_985 : decode cL_law 985 = .ok (.iconst 1, 1) := by decide +kernel
theorem dL_law_986 : decode cL_law 986 = .ok (.iadd, 1) := by decide +kernel
theorem dL_law_987 : decode cL_law 987 = .ok (.iaload, 1) := by decide +kernel
theorem dL_law_988 : decode cL_law 988 = .ok (.invokevirtual 146, 3) := by decide +kernel
theorem dL_law_991 : decode cL_law 991 = .ok (.aload_n 2, 1) := by decide +kernel
theorem dL_law_992 : decode cL_law 992 = .ok (.aload_n 0, 1) := by decide +kernel
theorem dL_law_993 : decode cL_law 993 = .ok (.iload_n 3, 1) := by decide +kernel
theorem dL_law_994 : decode cL_law 994 = .ok (.iconst 1, 1) := by decide +kernel
theorem dL_law_995 : decode cL_law 995 = .ok (.iadd, 1) := by decide +kernel
theorem dL_law_996 : decode cL_law 996 = .ok (.iaload, 1) := by decide +kernel
theorem dL_law_997 : decode cL_law 997 = .ok (.invokevirtual 149, 3) := by decide +kernel
theorem dL_law_1000 : decode cL_law 1000 = .ok (.if_icmp .eq 28, 3) := by decide +kernel
theorem dL_law_1003 : decode cL_law 1003 = .ok (.iconst 0, 1) := by decide +kernel
theorem dL_law_1004 : decode cL_law 1004 = .ok (.ireturn, 1) := by decide +kernel
theorem dL_law_1005 : decode cL_law 1005 = .ok (.aload_n 1, 1) := by decide +kernel
theorem dL_law_1006 : decode cL_law 1006 = .ok (.aload_n 0, 1) := by decide +kernel
theorem dL_law_1007 : decode cL_law 1007 = .ok (.iload_n 3, 1) := by decide +kernel
theorem dL_law_1008 : decode cL_law 1008 = .ok (.iconst 1, 1) := by decide +kernel
theorem dL_law_1009 : decode cL_law 1009 = .ok (.iadd, 1) := by decide +kernel
theorem dL_law_1010 : decode cL_law 1010 = .ok (.iaload, 1) := by decide +kernel
theorem dL_law_1011 : decode cL_law 1011 = .ok (.invokevirtual 150, 3) := by decide +kernel
theorem dL_law_1014 : decode cL_law 1014 = .ok (.aload_n 2, 1) := by decide +kernel
theorem dL_law_1015 : decode cL_law 1015 = .ok (.aload_n 0, 1) := by decide +kernel
theorem dL_law_1016 : decode cL_law 1016 = .ok (.iload_n 3, 1) := by decide +kernel
theorem dL_law_1017 : decode cL_law 1017 = .ok (.iconst 1, 1) := by decide +kernel
theorem dL_law_1018 : decode cL_law 1018 = .ok (.iadd, 1) := by decide +kernel
theorem dL_law_1019 : decode cL_law 1019 = .ok (.iaload, 1) := by decide +kernel
theorem dL_law_1020 : decode cL_law 1020 = .ok (.invokevirtual 153, 3) := by decide +kernel
theorem dL_law_1023 : decode cL_law 1023 = .ok (.if_icmp .eq 5, 3) := by decide +kernel
theorem dL_law_1026 : decode cL_law 1026 = .ok (.iconst 0, 1) := by decide +kernel
theorem dL_law_1027 : decode cL_law 1027 = .ok (.ireturn, 1) := by decide +kernel
theorem dL_law_1028 : decode cL_law 1028 = .ok (.iinc 3 4, 3) := by decide +kernel
theorem dL_law_1031 : decode cL_law 1031 = .ok (.goto (-1013), 3) := by decide +kernel
theorem dL_law_1034 : decode cL_law 1034 = .ok (.iconst 1, 1) := by decide +kernel
theorem dL_law_1035 : decode cL_law 1035 = .ok (.ireturn, 1) := by decide +kernel
