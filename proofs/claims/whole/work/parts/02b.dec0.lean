theorem dX0_init_0 : decode cX0_init 0 = .ok (.aload_n 0, 1) := by decide +kernel
theorem dX0_init_1 : decode cX0_init 1 = .ok (.invokespecial 3, 3) := by decide +kernel
theorem dX0_init_4 : decode cX0_init 4 = .ok (.aload_n 0, 1) := by decide +kernel
theorem dX0_init_5 : decode cX0_init 5 = .ok (.bipush 20, 2) := by decide +kernel
theorem dX0_init_7 : decode cX0_init 7 = .ok (.newarray .int, 2) := by decide +kernel
theorem dX0_init_9 : decode cX0_init 9 = .ok (.putfield 9, 3) := by decide +kernel
theorem dX0_init_12 : decode cX0_init 12 = .ok (.aload_n 0, 1) := by decide +kernel
theorem dX0_init_13 : decode cX0_init 13 = .ok (.bipush 20, 2) := by decide +kernel
theorem dX0_init_15 : decode cX0_init 15 = .ok (.newarray .int, 2) := by decide +kernel
theorem dX0_init_17 : decode cX0_init 17 = .ok (.putfield 15, 3) := by decide +kernel
theorem dX0_init_20 : decode cX0_init 20 = .ok (.aload_n 0, 1) := by decide +kernel
theorem dX0_init_21 : decode cX0_init 21 = .ok (.iconst 0, 1) := by decide +kernel
theorem dX0_init_22 : decode cX0_init 22 = .ok (.putfield 18, 3) := by decide +kernel
theorem dX0_init_25 : decode cX0_init 25 = .ok (.return_, 1) := by decide +kernel
theorem dX0_add_0 : decode cX0_add 0 = .ok (.aload_n 0, 1) := by decide +kernel
theorem dX0_add_1 : decode cX0_add 1 = .ok (.getfield 18, 3) := by decide +kernel
theorem dX0_add_4 : decode cX0_add 4 = .ok (.bipush 20, 2) := by decide +kernel
theorem dX0_add_6 : decode cX0_add 6 = .ok (.if_icmp .ge 33, 3) := by decide +kernel
theorem dX0_add_9 : decode cX0_add 9 = .ok (.aload_n 0, 1) := by decide +kernel
theorem dX0_add_10 : decode cX0_add 10 = .ok (.getfield 9, 3) := by decide +kernel
theorem dX0_add_13 : decode cX0_add 13 = .ok (.aload_n 0, 1) := by decide +kernel
theorem dX0_add_14 : decode cX0_add 14 = .ok (.getfield 18, 3) := by decide +kernel
theorem dX0_add_17 : decode cX0_add 17 = .ok (.iload_n 1, 1) := by decide +kernel
theorem dX0_add_18 : decode cX0_add 18 = .ok (.iastore, 1) := by decide +kernel
theorem dX0_add_19 : decode cX0_add 19 = .ok (.aload_n 0, 1) := by decide +kernel
theorem dX0_add_20 : decode cX0_add 20 = .ok (.getfield 15, 3) := by decide +kernel
theorem dX0_add_23 : decode cX0_add 23 = .ok (.aload_n 0, 1) := by decide +kernel
theorem dX0_add_24 : decode cX0_add 24 = .ok (.getfield 18, 3) := by decide +kernel
theorem dX0_add_27 : decode cX0_add 27 = .ok (.iload_n 2, 1) := by decide +kernel
theorem dX0_add_28 : decode cX0_add 28 = .ok (.iastore, 1) := by decide +kernel
theorem dX0_add_29 : decode cX0_add 29 = .ok (.aload_n 0, 1) := by decide +kernel
theorem dX0_add_30 : decode cX0_add 30 = .ok (.dup, 1) := by decide +kernel
theorem dX0_add_31 : decode cX0_add 31 = .ok (.getfield 18, 3) := by decide +kernel
theorem dX0_add_34 : decode cX0_add 34 = .ok (.iconst 1, 1) := by decide +kernel
theorem dX0_add_35 : decode cX0_add 35 = .ok (.iadd, 1) := by decide +kernel
theorem dX0_add_36 : decode cX0_add 36 = .ok (.putfield 18, 3) := by decide +kernel
theorem dX0_add_39 : decode cX0_add 39 = .ok (.return_, 1) := by decide +kernel
theorem dX0_firstWrong_0 : decode cX0_firstWrong 0 = .ok (.iconst 0, 1) := by decide +kernel
theorem dX0_firstWrong_1 : decode cX0_firstWrong 1 = .ok (.istore_n 2, 1) := by decide +kernel
theorem dX0_firstWrong_2 : decode cX0_firstWrong 2 = .ok (.iload_n 2, 1) := by decide +kernel
theorem dX0_firstWrong_3 : decode cX0_firstWrong 3 = .ok (.aload_n 0, 1) := by decide +kernel
theorem dX0_firstWrong_4 : decode cX0_firstWrong 4 = .ok (.getfield 18, 3) := by decide +kernel
theorem dX0_firstWrong_7 : decode cX0_firstWrong 7 = .ok (.if_icmp .ge 30, 3) := by decide +kernel
theorem dX0_firstWrong_10 : decode cX0_firstWrong 10 = .ok (.aload_n 1, 1) := by decide +kernel
theorem dX0_firstWrong_11 : decode cX0_firstWrong 11 = .ok (.aload_n 0, 1) := by decide +kernel
theorem dX0_firstWrong_12 : decode cX0_firstWrong 12 = .ok (.getfield 9, 3) := by decide +kernel
theorem dX0_firstWrong_15 : decode cX0_firstWrong 15 = .ok (.iload_n 2, 1) := by decide +kernel
theorem dX0_firstWrong_16 : decode cX0_firstWrong 16 = .ok (.iaload, 1) := by decide +kernel
theorem dX0_firstWrong_17 : decode cX0_firstWrong 17 = .ok (.invokevirtual 22, 3) := by decide +kernel
theorem dX0_firstWrong_20 : decode cX0_firstWrong 20 = .ok (.aload_n 0, 1) := by decide +kernel
theorem dX0_firstWrong_21 : decode cX0_firstWrong 21 = .ok (.getfield 15, 3) := by decide +kernel
theorem dX0_firstWrong_24 : decode cX0_firstWrong 24 = .ok (.iload_n 2, 1) := by decide +kernel
theorem dX0_firstWrong_25 : decode cX0_firstWrong 25 = .ok (.iaload, 1) := by decide +kernel
theorem dX0_firstWrong_26 : decode cX0_firstWrong 26 = .ok (.if_icmp .eq 5, 3) := by decide +kernel
theorem dX0_firstWrong_29 : decode cX0_firstWrong 29 = .ok (.iload_n 2, 1) := by decide +kernel
theorem dX0_firstWrong_30 : decode cX0_firstWrong 30 = .ok (.ireturn, 1) := by decide +kernel
theorem dX0_firstWrong_31 : decode cX0_firstWrong 31 = .ok (.iinc 2 1, 3) := by decide +kernel
theorem dX0_firstWrong_34 : decode cX0_firstWrong 34 = .ok (.goto (-32), 3) := by decide +kernel
theorem dX0_firstWrong_37 : decode cX0_firstWrong 37 = .ok (.iconst (-1), 1) := by decide +kernel
theorem dX0_firstWrong_38 : decode cX0_firstWrong 38 = .ok (.ireturn, 1) := by decide +kernel
theorem dX1_init_0 : decode cX1_init 0 = .ok (.aload_n 0, 1) := by decide +kernel
theorem dX1_init_1 : decode cX1_init 1 = .ok (.invokespecial 1, 3) := by decide +kernel
theorem dX1_init_4 : decode cX1_init 4 = .ok (.aload_n 0, 1) := by decide +kernel
theorem dX1_init_5 : decode cX1_init 5 = .ok (.new 7, 3) := by decide +kernel
theorem dX1_init_8 : decode cX1_init 8 = .ok (.dup, 1) := by decide +kernel
theorem dX1_init_9 : decode cX1_init 9 = .ok (.invokespecial 9, 3) := by decide +kernel
theorem dX1_init_12 : decode cX1_init 12 = .ok (.putfield 10, 3) := by decide +kernel
theorem dX1_init_15 : decode cX1_init 15 = .ok (.aload_n 0, 1) := by decide +kernel
theorem dX1_init_16 : decode cX1_init 16 = .ok (.iconst 0, 1) := by decide +kernel
theorem dX1_init_17 : decode cX1_init 17 = .ok (.putfield 16, 3) := by decide +kernel
theorem dX1_init_20 : decode cX1_init 20 = .ok (.aload_n 0, 1) := by decide +kernel
theorem dX1_init_21 : decode cX1_init 21 = .ok (.iconst 0, 1) := by decide +kernel
theorem dX1_init_22 : decode cX1_init 22 = .ok (.putfield 20, 3) := by decide +kernel
theorem dX1_init_25 : decode cX1_init 25 = .ok (.return_, 1) := by decide +kernel
theorem dX2_init_0 : decode cX2_init 0 = .ok (.aload_n 0, 1) := by decide +kernel
theorem dX2_init_1 : decode cX2_init 1 = .ok (.invokespecial 3, 3) := by decide +kernel
theorem dX2_init_4 : decode cX2_init 4 = .ok (.aload_n 0, 1) := by decide +kernel
theorem dX2_init_5 : decode cX2_init 5 = .ok (.bipush 7, 2) := by decide +kernel
theorem dX2_init_7 : decode cX2_init 7 = .ok (.newarray .int, 2) := by decide +kernel
theorem dX2_init_9 : decode cX2_init 9 = .ok (.putfield 9, 3) := by decide +kernel
theorem dX2_init_12 : decode cX2_init 12 = .ok (.aload_n 0, 1) := by decide +kernel
theorem dX2_init_13 : decode cX2_init 13 = .ok (.bipush 7, 2) := by decide +kernel
theorem dX2_init_15 : decode cX2_init 15 = .ok (.newarray .int, 2) := by decide +kernel
theorem dX2_init_17 : decode cX2_init 17 = .ok (.putfield 15, 3) := by decide +kernel
theorem dX2_init_20 : decode cX2_init 20 = .ok (.aload_n 0, 1) := by decide +kernel
theorem dX2_init_21 : decode cX2_init 21 = .ok (.bipush 7, 2) := by decide +kernel
theorem dX2_init_23 : decode cX2_init 23 = .ok (.newarray .int, 2) := by decide +kernel
theorem dX2_init_25 : decode cX2_init 25 = .ok (.putfield 18, 3) := by decide +kernel
theorem dX2_init_28 : decode cX2_init 28 = .ok (.aload_n 0, 1) := by decide +kernel
theorem dX2_init_29 : decode cX2_init 29 = .ok (.iconst 0, 1) := by decide +kernel
theorem dX2_init_30 : decode cX2_init 30 = .ok (.putfield 21, 3) := by decide +kernel
theorem dX2_init_33 : decode cX2_init 33 = .ok (.aload_n 0, 1) := by decide +kernel
theorem dX2_init_34 : decode cX2_init 34 = .ok (.iconst 0, 1) := by decide +kernel
theorem dX2_init_35 : decode cX2_init 35 = .ok (.putfield 25, 3) := by decide +kernel
theorem dX2_init_38 : decode cX2_init 38 = .ok (.aload_n 0, 1) := by decide +kernel
theorem dX2_init_39 : decode cX2_init 39 = .ok (.iconst 0, 1) := by decide +kernel
theorem dX2_init_40 : decode cX2_init 40 = .ok (.putfield 28, 3) := by decide +kernel
theorem dX2_init_43 : decode cX2_init 43 = .ok (.aload_n 0, 1) := by decide +kernel
theorem dX2_init_44 : decode cX2_init 44 = .ok (.iconst 0, 1) := by decide +kernel
theorem dX2_init_45 : decode cX2_init 45 = .ok (.putfield 31, 3) := by decide +kernel
theorem dX2_init_48 : decode cX2_init 48 = .ok (.return_, 1) := by decide +kernel
theorem dX2_hangAll_0 : decode cX2_hangAll 0 = .ok (.aload_n 0, 1) := by decide +kernel
theorem dX2_hangAll_1 : decode cX2_hangAll 1 = .ok (.getfield 15, 3) := by decide +kernel
theorem dX2_hangAll_4 : decode cX2_hangAll 4 = .ok (.iconst 0, 1) := by decide +kernel
theorem dX2_hangAll_5 : decode cX2_hangAll 5 = .ok (.invokestatic 34, 3) := by decide +kernel
theorem dX2_hangAll_8 : decode cX2_hangAll 8 = .ok (.aload_n 0, 1) := by decide +kernel
theorem dX2_hangAll_9 : decode cX2_hangAll 9 = .ok (.getfield 18, 3) := by decide +kernel
theorem dX2_hangAll_12 : decode cX2_hangAll 12 = .ok (.iconst 0, 1) := by decide +kernel
theorem dX2_hangAll_13 : decode cX2_hangAll 13 = .ok (.invokestatic 34, 3) := by decide +kernel
theorem dX2_hangAll_16 : decode cX2_hangAll 16 = .ok (.aload_n 0, 1) := by decide +kernel
theorem dX2_hangAll_17 : decode cX2_hangAll 17 = .ok (.aload_n 1, 1) := by decide +kernel
theorem dX2_hangAll_18 : decode cX2_hangAll 18 = .ok (.getfield 40, 3) := by decide +kernel
theorem dX2_hangAll_21 : decode cX2_hangAll 21 = .ok (.putfield 21, 3) := by decide +kernel
theorem dX2_hangAll_24 : decode cX2_hangAll 24 = .ok (.iconst 0, 1) := by decide +kernel
theorem dX2_hangAll_25 : decode cX2_hangAll 25 = .ok (.istore_n 2, 1) := by decide +kernel
theorem dX2_hangAll_26 : decode cX2_hangAll 26 = .ok (.iload_n 2, 1) := by decide +kernel
theorem dX2_hangAll_27 : decode cX2_hangAll 27 = .ok (.aload_n 0, 1) := by decide +kernel
theorem dX2_hangAll_28 : decode cX2_hangAll 28 = .ok (.getfield 21, 3) := by decide +kernel
theorem dX2_hangAll_31 : decode cX2_hangAll 31 = .ok (.if_icmp .ge 16, 3) := by decide +kernel
theorem dX2_hangAll_34 : decode cX2_hangAll 34 = .ok (.aload_n 0, 1) := by decide +kernel
theorem dX2_hangAll_35 : decode cX2_hangAll 35 = .ok (.getfield 9, 3) := by decide +kernel
theorem dX2_hangAll_38 : decode cX2_hangAll 38 = .ok (.iload_n 2, 1) := by decide +kernel
theorem dX2_hangAll_39 : decode cX2_hangAll 39 = .ok (.iload_n 2, 1) := by decide +kernel
theorem dX2_hangAll_40 : decode cX2_hangAll 40 = .ok (.iastore, 1) := by decide +kernel
theorem dX2_hangAll_41 : decode cX2_hangAll 41 = .ok (.iinc 2 1, 3) := by decide +kernel
theorem dX2_hangAll_44 : decode cX2_hangAll 44 = .ok (.goto (-18), 3) := by decide +kernel
theorem dX2_hangAll_47 : decode cX2_hangAll 47 = .ok (.aload_n 0, 1) := by decide +kernel
theorem dX2_hangAll_48 : decode cX2_hangAll 48 = .ok (.iconst 0, 1) := by decide +kernel
theorem dX2_hangAll_49 : decode cX2_hangAll 49 = .ok (.putfield 25, 3) := by decide +kernel
theorem dX2_hangAll_52 : decode cX2_hangAll 52 = .ok (.aload_n 0, 1) := by decide +kernel
theorem dX2_hangAll_53 : decode cX2_hangAll 53 = .ok (.aload_n 1, 1) := by decide +kernel
theorem dX2_hangAll_54 : decode cX2_hangAll 54 = .ok (.getfield 45, 3) := by decide +kernel
theorem dX2_hangAll_57 : decode cX2_hangAll 57 = .ok (.putfield 28, 3) := by decide +kernel
theorem dX2_hangAll_60 : decode cX2_hangAll 60 = .ok (.aload_n 0, 1) := by decide +kernel
theorem dX2_hangAll_61 : decode cX2_hangAll 61 = .ok (.iconst 0, 1) := by decide +kernel
theorem dX2_hangAll_62 : decode cX2_hangAll 62 = .ok (.putfield 31, 3) := by decide +kernel
theorem dX2_hangAll_65 : decode cX2_hangAll 65 = .ok (.return_, 1) := by decide +kernel
theorem dX2_copyFrom_0 : decode cX2_copyFrom 0 = .ok (.aload_n 1, 1) := by decide +kernel
theorem dX2_copyFrom_1 : decode cX2_copyFrom 1 = .ok (.getfield 9, 3) := by decide +kernel
theorem dX2_copyFrom_4 : decode cX2_copyFrom 4 = .ok (.iconst 0, 1) := by decide +kernel
theorem dX2_copyFrom_5 : decode cX2_copyFrom 5 = .ok (.aload_n 0, 1) := by decide +kernel
theorem dX2_copyFrom_6 : decode cX2_copyFrom 6 = .ok (.getfield 9, 3) := by decide +kernel
theorem dX2_copyFrom_9 : decode cX2_copyFrom 9 = .ok (.iconst 0, 1) := by decide +kernel
theorem dX2_copyFrom_10 : decode cX2_copyFrom 10 = .ok (.bipush 7, 2) := by decide +kernel
theorem dX2_copyFrom_12 : decode cX2_copyFrom 12 = .ok (.invokestatic 48, 3) := by decide +kernel
theorem dX2_copyFrom_15 : decode cX2_copyFrom 15 = .ok (.aload_n 1, 1) := by decide +kernel
theorem dX2_copyFrom_16 : decode cX2_copyFrom 16 = .ok (.getfield 15, 3) := by decide +kernel
theorem dX2_copyFrom_19 : decode cX2_copyFrom 19 = .ok (.iconst 0, 1) := by decide +kernel
theorem dX2_copyFrom_20 : decode cX2_copyFrom 20 = .ok (.aload_n 0, 1) := by decide +kernel
theorem dX2_copyFrom_21 : decode cX2_copyFrom 21 = .ok (.getfield 15, 3) := by decide +kernel
theorem dX2_copyFrom_24 : decode cX2_copyFrom 24 = .ok (.iconst 0, 1) := by decide +kernel
theorem dX2_copyFrom_25 : decode cX2_copyFrom 25 = .ok (.bipush 7, 2) := by decide +kernel
theorem dX2_copyFrom_27 : decode cX2_copyFrom 27 = .ok (.invokestatic 48, 3) := by decide +kernel
theorem dX2_copyFrom_30 : decode cX2_copyFrom 30 = .ok (.aload_n 1, 1) := by decide +kernel
theorem dX2_copyFrom_31 : decode cX2_copyFrom 31 = .ok (.getfield 18, 3) := by decide +kernel
theorem dX2_copyFrom_34 : decode cX2_copyFrom 34 = .ok (.iconst 0, 1) := by decide +kernel
theorem dX2_copyFrom_35 : decode cX2_copyFrom 35 = .ok (.aload_n 0, 1) := by decide +kernel
theorem dX2_copyFrom_36 : decode cX2_copyFrom 36 = .ok (.getfield 18, 3) := by decide +kernel
theorem dX2_copyFrom_39 : decode cX2_copyFrom 39 = .ok (.iconst 0, 1) := by decide +kernel
theorem dX2_copyFrom_40 : decode cX2_copyFrom 40 = .ok (.bipush 7, 2) := by decide +kernel
theorem dX2_copyFrom_42 : decode cX2_copyFrom 42 = .ok (.invokestatic 48, 3) := by decide +kernel
theorem dX2_copyFrom_45 : decode cX2_copyFrom 45 = .ok (.aload_n 0, 1) := by decide +kernel
theorem dX2_copyFrom_46 : decode cX2_copyFrom 46 = .ok (.aload_n 1, 1) := by decide +kernel
theorem dX2_copyFrom_47 : decode cX2_copyFrom 47 = .ok (.getfield 21, 3) := by decide +kernel
theorem dX2_copyFrom_50 : decode cX2_copyFrom 50 = .ok (.putfield 21, 3) := by decide +kernel
theorem dX2_copyFrom_53 : decode cX2_copyFrom 53 = .ok (.aload_n 0, 1) := by decide +kernel
theorem dX2_copyFrom_54 : decode cX2_copyFrom 54 = .ok (.aload_n 1, 1) := by decide +kernel
theorem dX2_copyFrom_55 : decode cX2_copyFrom 55 = .ok (.getfield 25, 3) := by decide +kernel
theorem dX2_copyFrom_58 : decode cX2_copyFrom 58 = .ok (.putfield 25, 3) := by decide +kernel
theorem dX2_copyFrom_61 : decode cX2_copyFrom 61 = .ok (.aload_n 0, 1) := by decide +kernel
theorem dX2_copyFrom_62 : decode cX2_copyFrom 62 = .ok (.aload_n 1, 1) := by decide +kernel
theorem dX2_copyFrom_63 : decode cX2_copyFrom 63 = .ok (.getfield 28, 3) := by decide +kernel
theorem dX2_copyFrom_66 : decode cX2_copyFrom 66 = .ok (.putfield 28, 3) := by decide +kernel
theorem dX2_copyFrom_69 : decode cX2_copyFrom 69 = .ok (.aload_n 0, 1) := by decide +kernel
theorem dX2_copyFrom_70 : decode cX2_copyFrom 70 = .ok (.aload_n 1, 1) := by decide +kernel
theorem dX2_copyFrom_71 : decode cX2_copyFrom 71 = .ok (.getfield 31, 3) := by decide +kernel
theorem dX2_copyFrom_74 : decode cX2_copyFrom 74 = .ok (.putfield 31, 3) := by decide +kernel
theorem dX2_copyFrom_77 : decode cX2_copyFrom 77 = .ok (.return_, 1) := by decide +kernel
theorem dX2_flagAt_0 : decode cX2_flagAt 0 = .ok (.iload_n 1, 1) := by decide +kernel
theorem dX2_flagAt_1 : decode cX2_flagAt 1 = .ok (.ifCond .lt 20, 3) := by decide +kernel
theorem dX2_flagAt_4 : decode cX2_flagAt 4 = .ok (.iload_n 1, 1) := by decide +kernel
theorem dX2_flagAt_5 : decode cX2_flagAt 5 = .ok (.aload_n 0, 1) := by decide +kernel
theorem dX2_flagAt_6 : decode cX2_flagAt 6 = .ok (.getfield 21, 3) := by decide +kernel
theorem dX2_flagAt_9 : decode cX2_flagAt 9 = .ok (.if_icmp .ge 12, 3) := by decide +kernel
theorem dX2_flagAt_12 : decode cX2_flagAt 12 = .ok (.aload_n 0, 1) := by decide +kernel
theorem dX2_flagAt_13 : decode cX2_flagAt 13 = .ok (.getfield 9, 3) := by decide +kernel
theorem dX2_flagAt_16 : decode cX2_flagAt 16 = .ok (.iload_n 1, 1) := by decide +kernel
theorem dX2_flagAt_17 : decode cX2_flagAt 17 = .ok (.iaload, 1) := by decide +kernel
theorem dX2_flagAt_18 : decode cX2_flagAt 18 = .ok (.goto 4, 3) := by decide +kernel
theorem dX2_flagAt_21 : decode cX2_flagAt 21 = .ok (.iconst (-1), 1) := by decide +kernel
theorem dX2_flagAt_22 : decode cX2_flagAt 22 = .ok (.ireturn, 1) := by decide +kernel
theorem dX2_placeOf_0 : decode cX2_placeOf 0 = .ok (.iconst 0, 1) := by decide +kernel
theorem dX2_placeOf_1 : decode cX2_placeOf 1 = .ok (.istore_n 2, 1) := by decide +kernel
theorem dX2_placeOf_2 : decode cX2_placeOf 2 = .ok (.iload_n 2, 1) := by decide +kernel
theorem dX2_placeOf_3 : decode cX2_placeOf 3 = .ok (.aload_n 0, 1) := by decide +kernel
theorem dX2_placeOf_4 : decode cX2_placeOf 4 = .ok (.getfield 21, 3) := by decide +kernel
theorem dX2_placeOf_7 : decode cX2_placeOf 7 = .ok (.if_icmp .ge 21, 3) := by decide +kernel
theorem dX2_placeOf_10 : decode cX2_placeOf 10 = .ok (.aload_n 0, 1) := by decide +kernel
theorem dX2_placeOf_11 : decode cX2_placeOf 11 = .ok (.getfield 9, 3) := by decide +kernel
theorem dX2_placeOf_14 : decode cX2_placeOf 14 = .ok (.iload_n 2, 1) := by decide +kernel
theorem dX2_placeOf_15 : decode cX2_placeOf 15 = .ok (.iaload, 1) := by decide +kernel
theorem dX2_placeOf_16 : decode cX2_placeOf 16 = .ok (.iload_n 1, 1) := by decide +kernel
theorem dX2_placeOf_17 : decode cX2_placeOf 17 = .ok (.if_icmp .ne 5, 3) := by decide +kernel
theorem dX2_placeOf_20 : decode cX2_placeOf 20 = .ok (.iload_n 2, 1) := by decide +kernel
theorem dX2_placeOf_21 : decode cX2_placeOf 21 = .ok (.ireturn, 1) := by decide +kernel
theorem dX2_placeOf_22 : decode cX2_placeOf 22 = .ok (.iinc 2 1, 3) := by decide +kernel
theorem dX2_placeOf_25 : decode cX2_placeOf 25 = .ok (.goto (-23), 3) := by decide +kernel
theorem dX2_placeOf_28 : decode cX2_placeOf 28 = .ok (.iconst (-1), 1) := by decide +kernel
theorem dX2_placeOf_29 : decode cX2_placeOf 29 = .ok (.ireturn, 1) := by decide +kernel
theorem dX2_flagsAt_0 : decode cX2_flagsAt 0 = .ok (.iconst 0, 1) := by decide +kernel
theorem dX2_flagsAt_1 : decode cX2_flagsAt 1 = .ok (.istore_n 2, 1) := by decide +kernel
theorem dX2_flagsAt_2 : decode cX2_flagsAt 2 = .ok (.iconst 0, 1) := by decide +kernel
theorem dX2_flagsAt_3 : decode cX2_flagsAt 3 = .ok (.istore_n 3, 1) := by decide +kernel
theorem dX2_flagsAt_4 : decode cX2_flagsAt 4 = .ok (.iload_n 3, 1) := by decide +kernel
theorem dX2_flagsAt_5 : decode cX2_flagsAt 5 = .ok (.aload_n 0, 1) := by decide +kernel
theorem dX2_flagsAt_6 : decode cX2_flagsAt 6 = .ok (.getfield 21, 3) := by decide +kernel
theorem dX2_flagsAt_9 : decode cX2_flagsAt 9 = .ok (.if_icmp .ge 28, 3) := by decide +kernel
theorem dX2_flagsAt_12 : decode cX2_flagsAt 12 = .ok (.iload_n 1, 1) := by decide +kernel
theorem dX2_flagsAt_13 : decode cX2_flagsAt 13 = .ok (.iload_n 3, 1) := by decide +kernel
theorem dX2_flagsAt_14 : decode cX2_flagsAt 14 = .ok (.invokestatic 54, 3) := by decide +kernel
theorem dX2_flagsAt_17 : decode cX2_flagsAt 17 = .ok (.ifCond .eq 14, 3) := by decide +kernel
theorem dX2_flagsAt_20 : decode cX2_flagsAt 20 = .ok (.iload_n 2, 1) := by decide +kernel
theorem dX2_flagsAt_21 : decode cX2_flagsAt 21 = .ok (.iconst 1, 1) := by decide +kernel
theorem dX2_flagsAt_22 : decode cX2_flagsAt 22 = .ok (.aload_n 0, 1) := by decide +kernel
theorem dX2_flagsAt_23 : decode cX2_flagsAt 23 = .ok (.getfield 9, 3) := by decide +kernel
theorem dX2_flagsAt_26 : decode cX2_flagsAt 26 = .ok (.iload_n 3, 1) := by decide +kernel
theorem dX2_flagsAt_27 : decode cX2_flagsAt 27 = .ok (.iaload, 1) := by decide +kernel
theorem dX2_flagsAt_28 : decode cX2_flagsAt 28 = .ok (.ishl, 1) := by decide +kernel
theorem dX2_flagsAt_29 : decode cX2_flagsAt 29 = .ok (.ior, 1) := by decide +kernel
theorem dX2_flagsAt_30 : decode cX2_flagsAt 30 = .ok (.istore_n 2, 1) := by decide +kernel
theorem dX2_flagsAt_31 : decode cX2_flagsAt 31 = .ok (.iinc 3 1, 3) := by decide +kernel
theorem dX2_flagsAt_34 : decode cX2_flagsAt 34 = .ok (.goto (-30), 3) := by decide +kernel
theorem dX2_flagsAt_37 : decode cX2_flagsAt 37 = .ok (.iload_n 2, 1) := by decide +kernel
theorem dX2_flagsAt_38 : decode cX2_flagsAt 38 = .ok (.ireturn, 1) := by decide +kernel
theorem dX2_placesOf_0 : decode cX2_placesOf 0 = .ok (.iconst 0, 1) := by decide +kernel
theorem dX2_placesOf_1 : decode cX2_placesOf 1 = .ok (.istore_n 2, 1) := by decide +kernel
theorem dX2_placesOf_2 : decode cX2_placesOf 2 = .ok (.iconst 0, 1) := by decide +kernel
theorem dX2_placesOf_3 : decode cX2_placesOf 3 = .ok (.istore_n 3, 1) := by decide +kernel
theorem dX2_placesOf_4 : decode cX2_placesOf 4 = .ok (.iload_n 3, 1) := by decide +kernel
theorem dX2_placesOf_5 : decode cX2_placesOf 5 = .ok (.aload_n 0, 1) := by decide +kernel
theorem dX2_placesOf_6 : decode cX2_placesOf 6 = .ok (.getfield 21, 3) := by decide +kernel
theorem dX2_placesOf_9 : decode cX2_placesOf 9 = .ok (.if_icmp .ge 28, 3) := by decide +kernel
theorem dX2_placesOf_12 : decode cX2_placesOf 12 = .ok (.iload_n 1, 1) := by decide +kernel
theorem dX2_placesOf_13 : decode cX2_placesOf 13 = .ok (.aload_n 0, 1) := by decide +kernel
theorem dX2_placesOf_14 : decode cX2_placesOf 14 = .ok (.getfield 9, 3) := by decide +kernel
theorem dX2_placesOf_17 : decode cX2_placesOf 17 = .ok (.iload_n 3, 1) := by decide +kernel
theorem dX2_placesOf_18 : decode cX2_placesOf 18 = .ok (.iaload, 1) := by decide +kernel
theorem dX2_placesOf_19 : decode cX2_placesOf 19 = .ok (.invokestatic 54, 3) := by decide +kernel
theorem dX2_placesOf_22 : decode cX2_placesOf 22 = .ok (.ifCond .eq 9, 3) := by decide +kernel
theorem dX2_placesOf_25 : decode cX2_placesOf 25 = .ok (.iload_n 2, 1) := by decide +kernel
theorem dX2_placesOf_26 : decode cX2_placesOf 26 = .ok (.iconst 1, 1) := by decide +kernel
theorem dX2_placesOf_27 : decode cX2_placesOf 27 = .ok (.iload_n 3, 1) := by decide +kernel
theorem dX2_placesOf_28 : decode cX2_placesOf 28 = .ok (.ishl, 1) := by decide +kernel
theorem dX2_placesOf_29 : decode cX2_placesOf 29 = .ok (.ior, 1) := by decide +kernel
theorem dX2_placesOf_30 : decode cX2_placesOf 30 = .ok (.istore_n 2, 1) := by decide +kernel
theorem dX2_placesOf_31 : decode cX2_placesOf 31 = .ok (.iinc 3 1, 3) := by decide +kernel
theorem dX2_placesOf_34 : decode cX2_placesOf 34 = .ok (.goto (-30), 3) := by decide +kernel
theorem dX2_placesOf_37 : decode cX2_placesOf 37 = .ok (.iload_n 2, 1) := by decide +kernel
theorem dX2_placesOf_38 : decode cX2_placesOf 38 = .ok (.ireturn, 1) := by decide +kernel
theorem dX2_onSet_0 : decode cX2_onSet 0 = .ok (.iconst 0, 1) := by decide +kernel
theorem dX2_onSet_1 : decode cX2_onSet 1 = .ok (.istore_n 1, 1) := by decide +kernel
theorem dX2_onSet_2 : decode cX2_onSet 2 = .ok (.iconst 0, 1) := by decide +kernel
theorem dX2_onSet_3 : decode cX2_onSet 3 = .ok (.istore_n 2, 1) := by decide +kernel
theorem dX2_onSet_4 : decode cX2_onSet 4 = .ok (.iload_n 2, 1) := by decide +kernel
theorem dX2_onSet_5 : decode cX2_onSet 5 = .ok (.aload_n 0, 1) := by decide +kernel
theorem dX2_onSet_6 : decode cX2_onSet 6 = .ok (.getfield 21, 3) := by decide +kernel
theorem dX2_onSet_9 : decode cX2_onSet 9 = .ok (.if_icmp .ge 20, 3) := by decide +kernel
theorem dX2_onSet_12 : decode cX2_onSet 12 = .ok (.iload_n 1, 1) := by decide +kernel
theorem dX2_onSet_13 : decode cX2_onSet 13 = .ok (.iconst 1, 1) := by decide +kernel
theorem dX2_onSet_14 : decode cX2_onSet 14 = .ok (.aload_n 0, 1) := by decide +kernel
theorem dX2_onSet_15 : decode cX2_onSet 15 = .ok (.getfield 9, 3) := by decide +kernel
theorem dX2_onSet_18 : decode cX2_onSet 18 = .ok (.iload_n 2, 1) := by decide +kernel
theorem dX2_onSet_19 : decode cX2_onSet 19 = .ok (.iaload, 1) := by decide +kernel
theorem dX2_onSet_20 : decode cX2_onSet 20 = .ok (.ishl, 1) := by decide +kernel
theorem dX2_onSet_21 : decode cX2_onSet 21 = .ok (.ior, 1) := by decide +kernel
theorem dX2_onSet_22 : decode cX2_onSet 22 = .ok (.istore_n 1, 1) := by decide +kernel
theorem dX2_onSet_23 : decode cX2_onSet 23 = .ok (.iinc 2 1, 3) := by decide +kernel
theorem dX2_onSet_26 : decode cX2_onSet 26 = .ok (.goto (-22), 3) := by decide +kernel
theorem dX2_onSet_29 : decode cX2_onSet 29 = .ok (.iload_n 1, 1) := by decide +kernel
theorem dX2_onSet_30 : decode cX2_onSet 30 = .ok (.ireturn, 1) := by decide +kernel
theorem dX2_outSet_0 : decode cX2_outSet 0 = .ok (.iconst 0, 1) := by decide +kernel
theorem dX2_outSet_1 : decode cX2_outSet 1 = .ok (.istore_n 2, 1) := by decide +kernel
theorem dX2_outSet_2 : decode cX2_outSet 2 = .ok (.iconst 0, 1) := by decide +kernel
theorem dX2_outSet_3 : decode cX2_outSet 3 = .ok (.istore_n 3, 1) := by decide +kernel
theorem dX2_outSet_4 : decode cX2_outSet 4 = .ok (.iload_n 3, 1) := by decide +kernel
theorem dX2_outSet_5 : decode cX2_outSet 5 = .ok (.aload_n 0, 1) := by decide +kernel
theorem dX2_outSet_6 : decode cX2_outSet 6 = .ok (.getfield 21, 3) := by decide +kernel
theorem dX2_outSet_9 : decode cX2_outSet 9 = .ok (.if_icmp .ge 34, 3) := by decide +kernel
theorem dX2_outSet_12 : decode cX2_outSet 12 = .ok (.aload_n 0, 1) := by decide +kernel
theorem dX2_outSet_13 : decode cX2_outSet 13 = .ok (.aload_n 1, 1) := by decide +kernel
theorem dX2_outSet_14 : decode cX2_outSet 14 = .ok (.aload_n 0, 1) := by decide +kernel
theorem dX2_outSet_15 : decode cX2_outSet 15 = .ok (.getfield 9, 3) := by decide +kernel
theorem dX2_outSet_18 : decode cX2_outSet 18 = .ok (.iload_n 3, 1) := by decide +kernel
theorem dX2_outSet_19 : decode cX2_outSet 19 = .ok (.iaload, 1) := by decide +kernel
theorem dX2_outSet_20 : decode cX2_outSet 20 = .ok (.invokevirtual 58, 3) := by decide +kernel
theorem dX2_outSet_23 : decode cX2_outSet 23 = .ok (.ifCond .eq 14, 3) := by decide +kernel
theorem dX2_outSet_26 : decode cX2_outSet 26 = .ok (.iload_n 2, 1) := by decide +kernel
theorem dX2_outSet_27 : decode cX2_outSet 27 = .ok (.iconst 1, 1) := by decide +kernel
theorem dX2_outSet_28 : decode cX2_outSet 28 = .ok (.aload_n 0, 1) := by decide +kernel
theorem dX2_outSet_29 : decode cX2_outSet 29 = .ok (.getfield 9, 3) := by decide +kernel
theorem dX2_outSet_32 : decode cX2_outSet 32 = .ok (.iload_n 3, 1) := by decide +kernel
theorem dX2_outSet_33 : decode cX2_outSet 33 = .ok (.iaload, 1) := by decide +kernel
theorem dX2_outSet_34 : decode cX2_outSet 34 = .ok (.ishl, 1) := by decide +kernel
theorem dX2_outSet_35 : decode cX2_outSet 35 = .ok (.ior, 1) := by decide +kernel
theorem dX2_outSet_36 : decode cX2_outSet 36 = .ok (.istore_n 2, 1) := by decide +kernel
theorem dX2_outSet_37 : decode cX2_outSet 37 = .ok (.iinc 3 1, 3) := by decide +kernel
theorem dX2_outSet_40 : decode cX2_outSet 40 = .ok (.goto (-36), 3) := by decide +kernel
theorem dX2_outSet_43 : decode cX2_outSet 43 = .ok (.iload_n 2, 1) := by decide +kernel
theorem dX2_outSet_44 : decode cX2_outSet 44 = .ok (.ireturn, 1) := by decide +kernel
theorem dX2_isOut_0 : decode cX2_isOut 0 = .ok (.aload_n 0, 1) := by decide +kernel
theorem dX2_isOut_1 : decode cX2_isOut 1 = .ok (.getfield 25, 3) := by decide +kernel
theorem dX2_isOut_4 : decode cX2_isOut 4 = .ok (.iload_n 2, 1) := by decide +kernel
theorem dX2_isOut_5 : decode cX2_isOut 5 = .ok (.invokestatic 54, 3) := by decide +kernel
theorem dX2_isOut_8 : decode cX2_isOut 8 = .ok (.istore_n 3, 1) := by decide +kernel
theorem dX2_isOut_9 : decode cX2_isOut 9 = .ok (.aload_n 1, 1) := by decide +kernel
theorem dX2_isOut_10 : decode cX2_isOut 10 = .ok (.getfield 62, 3) := by decide +kernel
theorem dX2_isOut_13 : decode cX2_isOut 13 = .ok (.iload_n 2, 1) := by decide +kernel
theorem dX2_isOut_14 : decode cX2_isOut 14 = .ok (.iaload, 1) := by decide +kernel
theorem dX2_isOut_15 : decode cX2_isOut 15 = .ok (.iconst 4, 1) := by decide +kernel
theorem dX2_isOut_16 : decode cX2_isOut 16 = .ok (.if_icmp .ne 9, 3) := by decide +kernel
theorem dX2_isOut_19 : decode cX2_isOut 19 = .ok (.iload_n 3, 1) := by decide +kernel
theorem dX2_isOut_20 : decode cX2_isOut 20 = .ok (.ifCond .eq 5, 3) := by decide +kernel
theorem dX2_isOut_23 : decode cX2_isOut 23 = .ok (.iconst 0, 1) := by decide +kernel
theorem dX2_isOut_24 : decode cX2_isOut 24 = .ok (.ireturn, 1) := by decide +kernel
theorem dX2_isOut_25 : decode cX2_isOut 25 = .ok (.aload_n 1, 1) := by decide +kernel
theorem dX2_isOut_26 : decode cX2_isOut 26 = .ok (.getfield 62, 3) := by decide +kernel
theorem dX2_isOut_29 : decode cX2_isOut 29 = .ok (.iload_n 2, 1) := by decide +kernel
theorem dX2_isOut_30 : decode cX2_isOut 30 = .ok (.iaload, 1) := by decide +kernel
theorem dX2_isOut_31 : decode cX2_isOut 31 = .ok (.iconst 5, 1) := by decide +kernel
theorem dX2_isOut_32 : decode cX2_isOut 32 = .ok (.if_icmp .ne 17, 3) := by decide +kernel
theorem dX2_isOut_35 : decode cX2_isOut 35 = .ok (.aload_n 0, 1) := by decide +kernel
theorem dX2_isOut_36 : decode cX2_isOut 36 = .ok (.getfield 28, 3) := by decide +kernel
theorem dX2_isOut_39 : decode cX2_isOut 39 = .ok (.iconst 1, 1) := by decide +kernel
theorem dX2_isOut_40 : decode cX2_isOut 40 = .ok (.if_icmp .lt 7, 3) := by decide +kernel
theorem dX2_isOut_43 : decode cX2_isOut 43 = .ok (.iconst 1, 1) := by decide +kernel
theorem dX2_isOut_44 : decode cX2_isOut 44 = .ok (.goto 4, 3) := by decide +kernel
theorem dX2_isOut_47 : decode cX2_isOut 47 = .ok (.iconst 0, 1) := by decide +kernel
theorem dX2_isOut_48 : decode cX2_isOut 48 = .ok (.ireturn, 1) := by decide +kernel
theorem dX2_isOut_49 : decode cX2_isOut 49 = .ok (.aload_n 0, 1) := by decide +kernel
theorem dX2_isOut_50 : decode cX2_isOut 50 = .ok (.getfield 28, 3) := by decide +kernel
theorem dX2_isOut_53 : decode cX2_isOut 53 = .ok (.aload_n 1, 1) := by decide +kernel
theorem dX2_isOut_54 : decode cX2_isOut 54 = .ok (.getfield 65, 3) := by decide +kernel
theorem dX2_isOut_57 : decode cX2_isOut 57 = .ok (.iload_n 2, 1) := by decide +kernel
theorem dX2_isOut_58 : decode cX2_isOut 58 = .ok (.iaload, 1) := by decide +kernel
theorem dX2_isOut_59 : decode cX2_isOut 59 = .ok (.iload_n 3, 1) := by decide +kernel
theorem dX2_isOut_60 : decode cX2_isOut 60 = .ok (.ifCond .eq 7, 3) := by decide +kernel
theorem dX2_isOut_63 : decode cX2_isOut 63 = .ok (.iconst 2, 1) := by decide +kernel
theorem dX2_isOut_64 : decode cX2_isOut 64 = .ok (.goto 4, 3) := by decide +kernel
theorem dX2_isOut_67 : decode cX2_isOut 67 = .ok (.iconst 0, 1) := by decide +kernel
theorem dX2_isOut_68 : decode cX2_isOut 68 = .ok (.iadd, 1) := by decide +kernel
theorem dX2_isOut_69 : decode cX2_isOut 69 = .ok (.if_icmp .lt 7, 3) := by decide +kernel
theorem dX2_isOut_72 : decode cX2_isOut 72 = .ok (.iconst 1, 1) := by decide +kernel
theorem dX2_isOut_73 : decode cX2_isOut 73 = .ok (.goto 4, 3) := by decide +kernel
theorem dX2_isOut_76 : decode cX2_isOut 76 = .ok (.iconst 0, 1) := by decide +kernel
theorem dX2_isOut_77 : decode cX2_isOut 77 = .ok (.ireturn, 1) := by decide +kernel
theorem dX2_turnFront_0 : decode cX2_turnFront 0 = .ok (.aload_n 0, 1) := by decide +kernel
theorem dX2_turnFront_1 : decode cX2_turnFront 1 = .ok (.iconst 0, 1) := by decide +kernel
theorem dX2_turnFront_2 : decode cX2_turnFront 2 = .ok (.iload_n 1, 1) := by decide +kernel
theorem dX2_turnFront_3 : decode cX2_turnFront 3 = .ok (.iconst 1, 1) := by decide +kernel
theorem dX2_turnFront_4 : decode cX2_turnFront 4 = .ok (.isub, 1) := by decide +kernel
theorem dX2_turnFront_5 : decode cX2_turnFront 5 = .ok (.invokevirtual 68, 3) := by decide +kernel
theorem dX2_turnFront_8 : decode cX2_turnFront 8 = .ok (.return_, 1) := by decide +kernel
theorem dX2_cutAt_0 : decode cX2_cutAt 0 = .ok (.aload_n 0, 1) := by decide +kernel
theorem dX2_cutAt_1 : decode cX2_cutAt 1 = .ok (.iconst 0, 1) := by decide +kernel
theorem dX2_cutAt_2 : decode cX2_cutAt 2 = .ok (.iload_n 1, 1) := by decide +kernel
theorem dX2_cutAt_3 : decode cX2_cutAt 3 = .ok (.iconst 1, 1) := by decide +kernel
theorem dX2_cutAt_4 : decode cX2_cutAt 4 = .ok (.isub, 1) := by decide +kernel
theorem dX2_cutAt_5 : decode cX2_cutAt 5 = .ok (.invokevirtual 68, 3) := by decide +kernel
theorem dX2_cutAt_8 : decode cX2_cutAt 8 = .ok (.aload_n 0, 1) := by decide +kernel
theorem dX2_cutAt_9 : decode cX2_cutAt 9 = .ok (.iload_n 1, 1) := by decide +kernel
theorem dX2_cutAt_10 : decode cX2_cutAt 10 = .ok (.aload_n 0, 1) := by decide +kernel
theorem dX2_cutAt_11 : decode cX2_cutAt 11 = .ok (.getfield 21, 3) := by decide +kernel
theorem dX2_cutAt_14 : decode cX2_cutAt 14 = .ok (.iconst 1, 1) := by decide +kernel
theorem dX2_cutAt_15 : decode cX2_cutAt 15 = .ok (.isub, 1) := by decide +kernel
theorem dX2_cutAt_16 : decode cX2_cutAt 16 = .ok (.invokevirtual 68, 3) := by decide +kernel
theorem dX2_cutAt_19 : decode cX2_cutAt 19 = .ok (.aload_n 0, 1) := by decide +kernel
theorem dX2_cutAt_20 : decode cX2_cutAt 20 = .ok (.iconst 0, 1) := by decide +kernel
theorem dX2_cutAt_21 : decode cX2_cutAt 21 = .ok (.aload_n 0, 1) := by decide +kernel
theorem dX2_cutAt_22 : decode cX2_cutAt 22 = .ok (.getfield 21, 3) := by decide +kernel
theorem dX2_cutAt_25 : decode cX2_cutAt 25 = .ok (.iconst 1, 1) := by decide +kernel
theorem dX2_cutAt_26 : decode cX2_cutAt 26 = .ok (.isub, 1) := by decide +kernel
theorem dX2_cutAt_27 : decode cX2_cutAt 27 = .ok (.invokevirtual 68, 3) := by decide +kernel
theorem dX2_cutAt_30 : decode cX2_cutAt 30 = .ok (.return_, 1) := by decide +kernel
theorem dX2_swapEnds_0 : decode cX2_swapEnds 0 = .ok (.iload_n 1, 1) := by decide +kernel
theorem dX2_swapEnds_1 : decode cX2_swapEnds 1 = .ok (.istore_n 3, 1) := by decide +kernel
theorem dX2_swapEnds_2 : decode cX2_swapEnds 2 = .ok (.iload_n 2, 1) := by decide +kernel
theorem dX2_swapEnds_3 : decode cX2_swapEnds 3 = .ok (.istore 4, 2) := by decide +kernel
theorem dX2_swapEnds_5 : decode cX2_swapEnds 5 = .ok (.iload_n 3, 1) := by decide +kernel
theorem dX2_swapEnds_6 : decode cX2_swapEnds 6 = .ok (.iload 4, 2) := by decide +kernel
theorem dX2_swapEnds_8 : decode cX2_swapEnds 8 = .ok (.if_icmp .ge 42, 3) := by decide +kernel
theorem dX2_swapEnds_11 : decode cX2_swapEnds 11 = .ok (.aload_n 0, 1) := by decide +kernel
theorem dX2_swapEnds_12 : decode cX2_swapEnds 12 = .ok (.getfield 9, 3) := by decide +kernel
theorem dX2_swapEnds_15 : decode cX2_swapEnds 15 = .ok (.iload_n 3, 1) := by decide +kernel
theorem dX2_swapEnds_16 : decode cX2_swapEnds 16 = .ok (.iaload, 1) := by decide +kernel
theorem dX2_swapEnds_17 : decode cX2_swapEnds 17 = .ok (.istore 5, 2) := by decide +kernel
theorem dX2_swapEnds_19 : decode cX2_swapEnds 19 = .ok (.aload_n 0, 1) := by decide +kernel
theorem dX2_swapEnds_20 : decode cX2_swapEnds 20 = .ok (.getfield 9, 3) := by decide +kernel
theorem dX2_swapEnds_23 : decode cX2_swapEnds 23 = .ok (.iload_n 3, 1) := by decide +kernel
theorem dX2_swapEnds_24 : decode cX2_swapEnds 24 = .ok (.aload_n 0, 1) := by decide +kernel
theorem dX2_swapEnds_25 : decode cX2_swapEnds 25 = .ok (.getfield 9, 3) := by decide +kernel
theorem dX2_swapEnds_28 : decode cX2_swapEnds 28 = .ok (.iload 4, 2) := by decide +kernel
theorem dX2_swapEnds_30 : decode cX2_swapEnds 30 = .ok (.iaload, 1) := by decide +kernel
theorem dX2_swapEnds_31 : decode cX2_swapEnds 31 = .ok (.iastore, 1) := by decide +kernel
theorem dX2_swapEnds_32 : decode cX2_swapEnds 32 = .ok (.aload_n 0, 1) := by decide +kernel
theorem dX2_swapEnds_33 : decode cX2_swapEnds 33 = .ok (.getfield 9, 3) := by decide +kernel
theorem dX2_swapEnds_36 : decode cX2_swapEnds 36 = .ok (.iload 4, 2) := by decide +kernel
theorem dX2_swapEnds_38 : decode cX2_swapEnds 38 = .ok (.iload 5, 2) := by decide +kernel
theorem dX2_swapEnds_40 : decode cX2_swapEnds 40 = .ok (.iastore, 1) := by decide +kernel
theorem dX2_swapEnds_41 : decode cX2_swapEnds 41 = .ok (.iinc 3 1, 3) := by decide +kernel
theorem dX2_swapEnds_44 : decode cX2_swapEnds 44 = .ok (.iinc 4 (-1), 3) := by decide +kernel
theorem dX2_swapEnds_47 : decode cX2_swapEnds 47 = .ok (.goto (-42), 3) := by decide +kernel
theorem dX2_swapEnds_50 : decode cX2_swapEnds 50 = .ok (.return_, 1) := by decide +kernel
theorem dX2_takeOff_0 : decode cX2_takeOff 0 = .ok (.iload_n 1, 1) := by decide +kernel
theorem dX2_takeOff_1 : decode cX2_takeOff 1 = .ok (.ifCond .lt 11, 3) := by decide +kernel
theorem dX2_takeOff_4 : decode cX2_takeOff 4 = .ok (.iload_n 1, 1) := by decide +kernel
theorem dX2_takeOff_5 : decode cX2_takeOff 5 = .ok (.aload_n 0, 1) := by decide +kernel
theorem dX2_takeOff_6 : decode cX2_takeOff 6 = .ok (.getfield 21, 3) := by decide +kernel
theorem dX2_takeOff_9 : decode cX2_takeOff 9 = .ok (.if_icmp .lt 4, 3) := by decide +kernel
theorem dX2_takeOff_12 : decode cX2_takeOff 12 = .ok (.return_, 1) := by decide +kernel
theorem dX2_takeOff_13 : decode cX2_takeOff 13 = .ok (.aload_n 0, 1) := by decide +kernel
theorem dX2_takeOff_14 : decode cX2_takeOff 14 = .ok (.dup, 1) := by decide +kernel
theorem dX2_takeOff_15 : decode cX2_takeOff 15 = .ok (.getfield 25, 3) := by decide +kernel
theorem dX2_takeOff_18 : decode cX2_takeOff 18 = .ok (.iconst 1, 1) := by decide +kernel
theorem dX2_takeOff_19 : decode cX2_takeOff 19 = .ok (.aload_n 0, 1) := by decide +kernel
theorem dX2_takeOff_20 : decode cX2_takeOff 20 = .ok (.getfield 9, 3) := by decide +kernel
theorem dX2_takeOff_23 : decode cX2_takeOff 23 = .ok (.iload_n 1, 1) := by decide +kernel
theorem dX2_takeOff_24 : decode cX2_takeOff 24 = .ok (.iaload, 1) := by decide +kernel
theorem dX2_takeOff_25 : decode cX2_takeOff 25 = .ok (.ishl, 1) := by decide +kernel
theorem dX2_takeOff_26 : decode cX2_takeOff 26 = .ok (.iconst (-1), 1) := by decide +kernel
theorem dX2_takeOff_27 : decode cX2_takeOff 27 = .ok (.ixor, 1) := by decide +kernel
theorem dX2_takeOff_28 : decode cX2_takeOff 28 = .ok (.iand, 1) := by decide +kernel
theorem dX2_takeOff_29 : decode cX2_takeOff 29 = .ok (.putfield 25, 3) := by decide +kernel
theorem dX2_takeOff_32 : decode cX2_takeOff 32 = .ok (.iload_n 1, 1) := by decide +kernel
theorem dX2_takeOff_33 : decode cX2_takeOff 33 = .ok (.iconst 1, 1) := by decide +kernel
theorem dX2_takeOff_34 : decode cX2_takeOff 34 = .ok (.iadd, 1) := by decide +kernel
theorem dX2_takeOff_35 : decode cX2_takeOff 35 = .ok (.istore_n 2, 1) := by decide +kernel
theorem dX2_takeOff_36 : decode cX2_takeOff 36 = .ok (.iload_n 2, 1) := by decide +kernel
theorem dX2_takeOff_37 : decode cX2_takeOff 37 = .ok (.aload_n 0, 1) := by decide +kernel
theorem dX2_takeOff_38 : decode cX2_takeOff 38 = .ok (.getfield 21, 3) := by decide +kernel
theorem dX2_takeOff_41 : decode cX2_takeOff 41 = .ok (.if_icmp .ge 23, 3) := by decide +kernel
theorem dX2_takeOff_44 : decode cX2_takeOff 44 = .ok (.aload_n 0, 1) := by decide +kernel
theorem dX2_takeOff_45 : decode cX2_takeOff 45 = .ok (.getfield 9, 3) := by decide +kernel
theorem dX2_takeOff_48 : decode cX2_takeOff 48 = .ok (.iload_n 2, 1) := by decide +kernel
theorem dX2_takeOff_49 : decode cX2_takeOff 49 = .ok (.iconst 1, 1) := by decide +kernel
theorem dX2_takeOff_50 : decode cX2_takeOff 50 = .ok (.isub, 1) := by decide +kernel
theorem dX2_takeOff_51 : decode cX2_takeOff 51 = .ok (.aload_n 0, 1) := by decide +kernel
theorem dX2_takeOff_52 : decode cX2_takeOff 52 = .ok (.getfield 9, 3) := by decide +kernel
theorem dX2_takeOff_55 : decode cX2_takeOff 55 = .ok (.iload_n 2, 1) := by decide +kernel
theorem dX2_takeOff_56 : decode cX2_takeOff 56 = .ok (.iaload, 1) := by decide +kernel
theorem dX2_takeOff_57 : decode cX2_takeOff 57 = .ok (.iastore, 1) := by decide +kernel
theorem dX2_takeOff_58 : decode cX2_takeOff 58 = .ok (.iinc 2 1, 3) := by decide +kernel
theorem dX2_takeOff_61 : decode cX2_takeOff 61 = .ok (.goto (-25), 3) := by decide +kernel
theorem dX2_takeOff_64 : decode cX2_takeOff 64 = .ok (.aload_n 0, 1) := by decide +kernel
theorem dX2_takeOff_65 : decode cX2_takeOff 65 = .ok (.dup, 1) := by decide +kernel
theorem dX2_takeOff_66 : decode cX2_takeOff 66 = .ok (.getfield 21, 3) := by decide +kernel
theorem dX2_takeOff_69 : decode cX2_takeOff 69 = .ok (.iconst 1, 1) := by decide +kernel
theorem dX2_takeOff_70 : decode cX2_takeOff 70 = .ok (.isub, 1) := by decide +kernel
theorem dX2_takeOff_71 : decode cX2_takeOff 71 = .ok (.putfield 21, 3) := by decide +kernel
theorem dX2_takeOff_74 : decode cX2_takeOff 74 = .ok (.return_, 1) := by decide +kernel
theorem dX2_sewOn_0 : decode cX2_sewOn 0 = .ok (.aload_n 0, 1) := by decide +kernel
theorem dX2_sewOn_1 : decode cX2_sewOn 1 = .ok (.getfield 21, 3) := by decide +kernel
theorem dX2_sewOn_4 : decode cX2_sewOn 4 = .ok (.bipush 7, 2) := by decide +kernel
theorem dX2_sewOn_6 : decode cX2_sewOn 6 = .ok (.if_icmp .lt 4, 3) := by decide +kernel
theorem dX2_sewOn_9 : decode cX2_sewOn 9 = .ok (.return_, 1) := by decide +kernel
theorem dX2_sewOn_10 : decode cX2_sewOn 10 = .ok (.aload_n 0, 1) := by decide +kernel
theorem dX2_sewOn_11 : decode cX2_sewOn 11 = .ok (.getfield 21, 3) := by decide +kernel
theorem dX2_sewOn_14 : decode cX2_sewOn 14 = .ok (.istore_n 3, 1) := by decide +kernel
theorem dX2_sewOn_15 : decode cX2_sewOn 15 = .ok (.iload_n 3, 1) := by decide +kernel
theorem dX2_sewOn_16 : decode cX2_sewOn 16 = .ok (.iload_n 2, 1) := by decide +kernel
theorem dX2_sewOn_17 : decode cX2_sewOn 17 = .ok (.if_icmp .le 23, 3) := by decide +kernel
theorem dX2_sewOn_20 : decode cX2_sewOn 20 = .ok (.aload_n 0, 1) := by decide +kernel
theorem dX2_sewOn_21 : decode cX2_sewOn 21 = .ok (.getfield 9, 3) := by decide +kernel
theorem dX2_sewOn_24 : decode cX2_sewOn 24 = .ok (.iload_n 3, 1) := by decide +kernel
theorem dX2_sewOn_25 : decode cX2_sewOn 25 = .ok (.aload_n 0, 1) := by decide +kernel
theorem dX2_sewOn_26 : decode cX2_sewOn 26 = .ok (.getfield 9, 3) := by decide +kernel
theorem dX2_sewOn_29 : decode cX2_sewOn 29 = .ok (.iload_n 3, 1) := by decide +kernel
theorem dX2_sewOn_30 : decode cX2_sewOn 30 = .ok (.iconst 1, 1) := by decide +kernel
theorem dX2_sewOn_31 : decode cX2_sewOn 31 = .ok (.isub, 1) := by decide +kernel
theorem dX2_sewOn_32 : decode cX2_sewOn 32 = .ok (.iaload, 1) := by decide +kernel
theorem dX2_sewOn_33 : decode cX2_sewOn 33 = .ok (.iastore, 1) := by decide +kernel
theorem dX2_sewOn_34 : decode cX2_sewOn 34 = .ok (.iinc 3 (-1), 3) := by decide +kernel
theorem dX2_sewOn_37 : decode cX2_sewOn 37 = .ok (.goto (-22), 3) := by decide +kernel
theorem dX2_sewOn_40 : decode cX2_sewOn 40 = .ok (.aload_n 0, 1) := by decide +kernel
theorem dX2_sewOn_41 : decode cX2_sewOn 41 = .ok (.getfield 9, 3) := by decide +kernel
theorem dX2_sewOn_44 : decode cX2_sewOn 44 = .ok (.iload_n 2, 1) := by decide +kernel
theorem dX2_sewOn_45 : decode cX2_sewOn 45 = .ok (.iload_n 1, 1) := by decide +kernel
theorem dX2_sewOn_46 : decode cX2_sewOn 46 = .ok (.iastore, 1) := by decide +kernel
theorem dX2_sewOn_47 : decode cX2_sewOn 47 = .ok (.aload_n 0, 1) := by decide +kernel
theorem dX2_sewOn_48 : decode cX2_sewOn 48 = .ok (.dup, 1) := by decide +kernel
theorem dX2_sewOn_49 : decode cX2_sewOn 49 = .ok (.getfield 21, 3) := by decide +kernel
theorem dX2_sewOn_52 : decode cX2_sewOn 52 = .ok (.iconst 1, 1) := by decide +kernel
theorem dX2_sewOn_53 : decode cX2_sewOn 53 = .ok (.iadd, 1) := by decide +kernel
theorem dX2_sewOn_54 : decode cX2_sewOn 54 = .ok (.putfield 21, 3) := by decide +kernel
theorem dX2_sewOn_57 : decode cX2_sewOn 57 = .ok (.aload_n 0, 1) := by decide +kernel
theorem dX2_sewOn_58 : decode cX2_sewOn 58 = .ok (.getfield 15, 3) := by decide +kernel
theorem dX2_sewOn_61 : decode cX2_sewOn 61 = .ok (.iload_n 1, 1) := by decide +kernel
theorem dX2_sewOn_62 : decode cX2_sewOn 62 = .ok (.iconst 0, 1) := by decide +kernel
theorem dX2_sewOn_63 : decode cX2_sewOn 63 = .ok (.iastore, 1) := by decide +kernel
theorem dX2_sewOn_64 : decode cX2_sewOn 64 = .ok (.aload_n 0, 1) := by decide +kernel
theorem dX2_sewOn_65 : decode cX2_sewOn 65 = .ok (.getfield 18, 3) := by decide +kernel
theorem dX2_sewOn_68 : decode cX2_sewOn 68 = .ok (.iload_n 1, 1) := by decide +kernel
theorem dX2_sewOn_69 : decode cX2_sewOn 69 = .ok (.dup2, 1) := by decide +kernel
theorem dX2_sewOn_70 : decode cX2_sewOn 70 = .ok (.iaload, 1) := by decide +kernel
theorem dX2_sewOn_71 : decode cX2_sewOn 71 = .ok (.iconst 1, 1) := by decide +kernel
theorem dX2_sewOn_72 : decode cX2_sewOn 72 = .ok (.iadd, 1) := by decide +kernel
theorem dX2_sewOn_73 : decode cX2_sewOn 73 = .ok (.iastore, 1) := by decide +kernel
theorem dX2_sewOn_74 : decode cX2_sewOn 74 = .ok (.return_, 1) := by decide +kernel
theorem dX2_passYear_0 : decode cX2_passYear 0 = .ok (.iconst 0, 1) := by decide +kernel
theorem dX2_passYear_1 : decode cX2_passYear 1 = .ok (.istore_n 2, 1) := by decide +kernel
theorem dX2_passYear_2 : decode cX2_passYear 2 = .ok (.iload_n 2, 1) := by decide +kernel
theorem dX2_passYear_3 : decode cX2_passYear 3 = .ok (.aload_n 0, 1) := by decide +kernel
theorem dX2_passYear_4 : decode cX2_passYear 4 = .ok (.getfield 21, 3) := by decide +kernel
theorem dX2_passYear_7 : decode cX2_passYear 7 = .ok (.if_icmp .ge 62, 3) := by decide +kernel
theorem dX2_passYear_10 : decode cX2_passYear 10 = .ok (.aload_n 0, 1) := by decide +kernel
theorem dX2_passYear_11 : decode cX2_passYear 11 = .ok (.getfield 9, 3) := by decide +kernel
theorem dX2_passYear_14 : decode cX2_passYear 14 = .ok (.iload_n 2, 1) := by decide +kernel
theorem dX2_passYear_15 : decode cX2_passYear 15 = .ok (.iaload, 1) := by decide +kernel
theorem dX2_passYear_16 : decode cX2_passYear 16 = .ok (.istore_n 3, 1) := by decide +kernel
theorem dX2_passYear_17 : decode cX2_passYear 17 = .ok (.aload_n 0, 1) := by decide +kernel
theorem dX2_passYear_18 : decode cX2_passYear 18 = .ok (.aload_n 1, 1) := by decide +kernel
theorem dX2_passYear_19 : decode cX2_passYear 19 = .ok (.iload_n 3, 1) := by decide +kernel
theorem dX2_passYear_20 : decode cX2_passYear 20 = .ok (.invokevirtual 58, 3) := by decide +kernel
theorem dX2_passYear_23 : decode cX2_passYear 23 = .ok (.ifCond .eq 17, 3) := by decide +kernel
theorem dX2_passYear_26 : decode cX2_passYear 26 = .ok (.aload_n 1, 1) := by decide +kernel
theorem dX2_passYear_27 : decode cX2_passYear 27 = .ok (.getfield 62, 3) := by decide +kernel
theorem dX2_passYear_30 : decode cX2_passYear 30 = .ok (.iload_n 3, 1) := by decide +kernel
theorem dX2_passYear_31 : decode cX2_passYear 31 = .ok (.iaload, 1) := by decide +kernel
theorem dX2_passYear_32 : decode cX2_passYear 32 = .ok (.iconst 3, 1) := by decide +kernel
theorem dX2_passYear_33 : decode cX2_passYear 33 = .ok (.if_icmp .eq 7, 3) := by decide +kernel
theorem dX2_passYear_36 : decode cX2_passYear 36 = .ok (.iconst 2, 1) := by decide +kernel
theorem dX2_passYear_37 : decode cX2_passYear 37 = .ok (.goto 4, 3) := by decide +kernel
theorem dX2_passYear_40 : decode cX2_passYear 40 = .ok (.iconst 1, 1) := by decide +kernel
theorem dX2_passYear_41 : decode cX2_passYear 41 = .ok (.istore 4, 2) := by decide +kernel
theorem dX2_passYear_43 : decode cX2_passYear 43 = .ok (.aload_n 0, 1) := by decide +kernel
theorem dX2_passYear_44 : decode cX2_passYear 44 = .ok (.getfield 15, 3) := by decide +kernel
theorem dX2_passYear_47 : decode cX2_passYear 47 = .ok (.iload_n 3, 1) := by decide +kernel
theorem dX2_passYear_48 : decode cX2_passYear 48 = .ok (.bipush 99, 2) := by decide +kernel
theorem dX2_passYear_50 : decode cX2_passYear 50 = .ok (.aload_n 0, 1) := by decide +kernel
theorem dX2_passYear_51 : decode cX2_passYear 51 = .ok (.getfield 15, 3) := by decide +kernel
theorem dX2_passYear_54 : decode cX2_passYear 54 = .ok (.iload_n 3, 1) := by decide +kernel
theorem dX2_passYear_55 : decode cX2_passYear 55 = .ok (.iaload, 1) := by decide +kernel
theorem dX2_passYear_56 : decode cX2_passYear 56 = .ok (.iload 4, 2) := by decide +kernel
theorem dX2_passYear_58 : decode cX2_passYear 58 = .ok (.iadd, 1) := by decide +kernel
theorem dX2_passYear_59 : decode cX2_passYear 59 = .ok (.invokestatic 72, 3) := by decide +kernel
theorem dX2_passYear_62 : decode cX2_passYear 62 = .ok (.iastore, 1) := by decide +kernel
theorem dX2_passYear_63 : decode cX2_passYear 63 = .ok (.iinc 2 1, 3) := by decide +kernel
theorem dX2_passYear_66 : decode cX2_passYear 66 = .ok (.goto (-64), 3) := by decide +kernel
theorem dX2_passYear_69 : decode cX2_passYear 69 = .ok (.aload_n 0, 1) := by decide +kernel
theorem dX2_passYear_70 : decode cX2_passYear 70 = .ok (.getfield 21, 3) := by decide +kernel
theorem dX2_passYear_73 : decode cX2_passYear 73 = .ok (.iconst 1, 1) := by decide +kernel
theorem dX2_passYear_74 : decode cX2_passYear 74 = .ok (.isub, 1) := by decide +kernel
theorem dX2_passYear_75 : decode cX2_passYear 75 = .ok (.istore_n 2, 1) := by decide +kernel
theorem dX2_passYear_76 : decode cX2_passYear 76 = .ok (.iload_n 2, 1) := by decide +kernel
theorem dX2_passYear_77 : decode cX2_passYear 77 = .ok (.ifCond .lt 45, 3) := by decide +kernel
theorem dX2_passYear_80 : decode cX2_passYear 80 = .ok (.aload_n 1, 1) := by decide +kernel
theorem dX2_passYear_81 : decode cX2_passYear 81 = .ok (.getfield 62, 3) := by decide +kernel
theorem dX2_passYear_84 : decode cX2_passYear 84 = .ok (.aload_n 0, 1) := by decide +kernel
theorem dX2_passYear_85 : decode cX2_passYear 85 = .ok (.getfield 9, 3) := by decide +kernel
theorem dX2_passYear_88 : decode cX2_passYear 88 = .ok (.iload_n 2, 1) := by decide +kernel
theorem dX2_passYear_89 : decode cX2_passYear 89 = .ok (.iaload, 1) := by decide +kernel
theorem dX2_passYear_90 : decode cX2_passYear 90 = .ok (.iaload, 1) := by decide +kernel
theorem dX2_passYear_91 : decode cX2_passYear 91 = .ok (.iconst 2, 1) := by decide +kernel
theorem dX2_passYear_92 : decode cX2_passYear 92 = .ok (.if_icmp .ne 24, 3) := by decide +kernel
theorem dX2_passYear_95 : decode cX2_passYear 95 = .ok (.aload_n 0, 1) := by decide +kernel
theorem dX2_passYear_96 : decode cX2_passYear 96 = .ok (.getfield 15, 3) := by decide +kernel
theorem dX2_passYear_99 : decode cX2_passYear 99 = .ok (.aload_n 0, 1) := by decide +kernel
theorem dX2_passYear_100 : decode cX2_passYear 100 = .ok (.getfield 9, 3) := by decide +kernel
theorem dX2_passYear_103 : decode cX2_passYear 103 = .ok (.iload_n 2, 1) := by decide +kernel
theorem dX2_passYear_104 : decode cX2_passYear 104 = .ok (.iaload, 1) := by decide +kernel
theorem dX2_passYear_105 : decode cX2_passYear 105 = .ok (.iaload, 1) := by decide +kernel
theorem dX2_passYear_106 : decode cX2_passYear 106 = .ok (.bipush 40, 2) := by decide +kernel
theorem dX2_passYear_108 : decode cX2_passYear 108 = .ok (.if_icmp .lt 8, 3) := by decide +kernel
theorem dX2_passYear_111 : decode cX2_passYear 111 = .ok (.aload_n 0, 1) := by decide +kernel
theorem dX2_passYear_112 : decode cX2_passYear 112 = .ok (.iload_n 2, 1) := by decide +kernel
theorem dX2_passYear_113 : decode cX2_passYear 113 = .ok (.invokevirtual 78, 3) := by decide +kernel
theorem dX2_passYear_116 : decode cX2_passYear 116 = .ok (.iinc 2 (-1), 3) := by decide +kernel
theorem dX2_passYear_119 : decode cX2_passYear 119 = .ok (.goto (-43), 3) := by decide +kernel
theorem dX2_passYear_122 : decode cX2_passYear 122 = .ok (.aload_n 0, 1) := by decide +kernel
theorem dX2_passYear_123 : decode cX2_passYear 123 = .ok (.iconst 0, 1) := by decide +kernel
theorem dX2_passYear_124 : decode cX2_passYear 124 = .ok (.putfield 25, 3) := by decide +kernel
theorem dX2_passYear_127 : decode cX2_passYear 127 = .ok (.aload_n 0, 1) := by decide +kernel
theorem dX2_passYear_128 : decode cX2_passYear 128 = .ok (.dup, 1) := by decide +kernel
theorem dX2_passYear_129 : decode cX2_passYear 129 = .ok (.getfield 31, 3) := by decide +kernel
theorem dX2_passYear_132 : decode cX2_passYear 132 = .ok (.iconst 1, 1) := by decide +kernel
theorem dX2_passYear_133 : decode cX2_passYear 133 = .ok (.iadd, 1) := by decide +kernel
theorem dX2_passYear_134 : decode cX2_passYear 134 = .ok (.putfield 31, 3) := by decide +kernel
theorem dX2_passYear_137 : decode cX2_passYear 137 = .ok (.return_, 1) := by decide +kernel
theorem dX2_rises_0 : decode cX2_rises 0 = .ok (.aload_n 0, 1) := by decide +kernel
theorem dX2_rises_1 : decode cX2_rises 1 = .ok (.iconst 0, 1) := by decide +kernel
theorem dX2_rises_2 : decode cX2_rises 2 = .ok (.invokevirtual 82, 3) := by decide +kernel
theorem dX2_rises_5 : decode cX2_rises 5 = .ok (.ireturn, 1) := by decide +kernel
theorem dX2_rightCut_0 : decode cX2_rightCut 0 = .ok (.aload_n 0, 1) := by decide +kernel
theorem dX2_rightCut_1 : decode cX2_rightCut 1 = .ok (.invokevirtual 86, 3) := by decide +kernel
theorem dX2_rightCut_4 : decode cX2_rightCut 4 = .ok (.ifCond .eq 5, 3) := by decide +kernel
theorem dX2_rightCut_7 : decode cX2_rightCut 7 = .ok (.iconst 0, 1) := by decide +kernel
theorem dX2_rightCut_8 : decode cX2_rightCut 8 = .ok (.ireturn, 1) := by decide +kernel
theorem dX2_rightCut_9 : decode cX2_rightCut 9 = .ok (.iconst 1, 1) := by decide +kernel
theorem dX2_rightCut_10 : decode cX2_rightCut 10 = .ok (.istore_n 1, 1) := by decide +kernel
theorem dX2_rightCut_11 : decode cX2_rightCut 11 = .ok (.iload_n 1, 1) := by decide +kernel
theorem dX2_rightCut_12 : decode cX2_rightCut 12 = .ok (.aload_n 0, 1) := by decide +kernel
theorem dX2_rightCut_13 : decode cX2_rightCut 13 = .ok (.getfield 21, 3) := by decide +kernel
theorem dX2_rightCut_16 : decode cX2_rightCut 16 = .ok (.if_icmp .ge 19, 3) := by decide +kernel
theorem dX2_rightCut_19 : decode cX2_rightCut 19 = .ok (.aload_n 0, 1) := by decide +kernel
theorem dX2_rightCut_20 : decode cX2_rightCut 20 = .ok (.iload_n 1, 1) := by decide +kernel
theorem dX2_rightCut_21 : decode cX2_rightCut 21 = .ok (.invokevirtual 82, 3) := by decide +kernel
theorem dX2_rightCut_24 : decode cX2_rightCut 24 = .ok (.ifCond .eq 5, 3) := by decide +kernel
theorem dX2_rightCut_27 : decode cX2_rightCut 27 = .ok (.iload_n 1, 1) := by decide +kernel
theorem dX2_rightCut_28 : decode cX2_rightCut 28 = .ok (.ireturn, 1) := by decide +kernel
theorem dX2_rightCut_29 : decode cX2_rightCut 29 = .ok (.iinc 1 1, 3) := by decide +kernel
theorem dX2_rightCut_32 : decode cX2_rightCut 32 = .ok (.goto (-21), 3) := by decide +kernel
theorem dX2_rightCut_35 : decode cX2_rightCut 35 = .ok (.iconst (-1), 1) := by decide +kernel
theorem dX2_rightCut_36 : decode cX2_rightCut 36 = .ok (.ireturn, 1) := by decide +kernel
theorem dX2_risesFrom_0 : decode cX2_risesFrom 0 = .ok (.iconst 1, 1) := by decide +kernel
theorem dX2_risesFrom_1 : decode cX2_risesFrom 1 = .ok (.istore_n 2, 1) := by decide +kernel
theorem dX2_risesFrom_2 : decode cX2_risesFrom 2 = .ok (.iload_n 2, 1) := by decide +kernel
theorem dX2_risesFrom_3 : decode cX2_risesFrom 3 = .ok (.aload_n 0, 1) := by decide +kernel
theorem dX2_risesFrom_4 : decode cX2_risesFrom 4 = .ok (.getfield 21, 3) := by decide +kernel
theorem dX2_risesFrom_7 : decode cX2_risesFrom 7 = .ok (.if_icmp .ge 42, 3) := by decide +kernel
theorem dX2_risesFrom_10 : decode cX2_risesFrom 10 = .ok (.aload_n 0, 1) := by decide +kernel
theorem dX2_risesFrom_11 : decode cX2_risesFrom 11 = .ok (.getfield 9, 3) := by decide +kernel
theorem dX2_risesFrom_14 : decode cX2_risesFrom 14 = .ok (.iload_n 1, 1) := by decide +kernel
theorem dX2_risesFrom_15 : decode cX2_risesFrom 15 = .ok (.iload_n 2, 1) := by decide +kernel
theorem dX2_risesFrom_16 : decode cX2_risesFrom 16 = .ok (.iadd, 1) := by decide +kernel
theorem dX2_risesFrom_17 : decode cX2_risesFrom 17 = .ok (.aload_n 0, 1) := by decide +kernel
theorem dX2_risesFrom_18 : decode cX2_risesFrom 18 = .ok (.getfield 21, 3) := by decide +kernel
theorem dX2_risesFrom_21 : decode cX2_risesFrom 21 = .ok (.irem, 1) := by decide +kernel
theorem dX2_risesFrom_22 : decode cX2_risesFrom 22 = .ok (.iaload, 1) := by decide +kernel
theorem dX2_risesFrom_23 : decode cX2_risesFrom 23 = .ok (.aload_n 0, 1) := by decide +kernel
theorem dX2_risesFrom_24 : decode cX2_risesFrom 24 = .ok (.getfield 9, 3) := by decide +kernel
theorem dX2_risesFrom_27 : decode cX2_risesFrom 27 = .ok (.iload_n 1, 1) := by decide +kernel
theorem dX2_risesFrom_28 : decode cX2_risesFrom 28 = .ok (.iload_n 2, 1) := by decide +kernel
theorem dX2_risesFrom_29 : decode cX2_risesFrom 29 = .ok (.iadd, 1) := by decide +kernel
theorem dX2_risesFrom_30 : decode cX2_risesFrom 30 = .ok (.iconst 1, 1) := by decide +kernel
theorem dX2_risesFrom_31 : decode cX2_risesFrom 31 = .ok (.isub, 1) := by decide +kernel
theorem dX2_risesFrom_32 : decode cX2_risesFrom 32 = .ok (.aload_n 0, 1) := by decide +kernel
theorem dX2_risesFrom_33 : decode cX2_risesFrom 33 = .ok (.getfield 21, 3) := by decide +kernel
theorem dX2_risesFrom_36 : decode cX2_risesFrom 36 = .ok (.irem, 1) := by decide +kernel
theorem dX2_risesFrom_37 : decode cX2_risesFrom 37 = .ok (.iaload, 1) := by decide +kernel
theorem dX2_risesFrom_38 : decode cX2_risesFrom 38 = .ok (.if_icmp .ge 5, 3) := by decide +kernel
theorem dX2_risesFrom_41 : decode cX2_risesFrom 41 = .ok (.iconst 0, 1) := by decide +kernel
theorem dX2_risesFrom_42 : decode cX2_risesFrom 42 = .ok (.ireturn, 1) := by decide +kernel
theorem dX2_risesFrom_43 : decode cX2_risesFrom 43 = .ok (.iinc 2 1, 3) := by decide +kernel
theorem dX2_risesFrom_46 : decode cX2_risesFrom 46 = .ok (.goto (-44), 3) := by decide +kernel
theorem dX2_risesFrom_49 : decode cX2_risesFrom 49 = .ok (.iconst 1, 1) := by decide +kernel
theorem dX2_risesFrom_50 : decode cX2_risesFrom 50 = .ok (.ireturn, 1) := by decide +kernel
theorem dX2_crossed_0 : decode cX2_crossed 0 = .ok (.iconst 0, 1) := by decide +kernel
theorem dX2_crossed_1 : decode cX2_crossed 1 = .ok (.istore_n 1, 1) := by decide +kernel
theorem dX2_crossed_2 : decode cX2_crossed 2 = .ok (.iconst 0, 1) := by decide +kernel
theorem dX2_crossed_3 : decode cX2_crossed 3 = .ok (.istore_n 2, 1) := by decide +kernel
theorem dX2_crossed_4 : decode cX2_crossed 4 = .ok (.iload_n 2, 1) := by decide +kernel
theorem dX2_crossed_5 : decode cX2_crossed 5 = .ok (.aload_n 0, 1) := by decide +kernel
theorem dX2_crossed_6 : decode cX2_crossed 6 = .ok (.getfield 21, 3) := by decide +kernel
theorem dX2_crossed_9 : decode cX2_crossed 9 = .ok (.if_icmp .ge 45, 3) := by decide +kernel
theorem dX2_crossed_12 : decode cX2_crossed 12 = .ok (.iload_n 2, 1) := by decide +kernel
theorem dX2_crossed_13 : decode cX2_crossed 13 = .ok (.iconst 1, 1) := by decide +kernel
theorem dX2_crossed_14 : decode cX2_crossed 14 = .ok (.iadd, 1) := by decide +kernel
theorem dX2_crossed_15 : decode cX2_crossed 15 = .ok (.istore_n 3, 1) := by decide +kernel
theorem dX2_crossed_16 : decode cX2_crossed 16 = .ok (.iload_n 3, 1) := by decide +kernel
theorem dX2_crossed_17 : decode cX2_crossed 17 = .ok (.aload_n 0, 1) := by decide +kernel
theorem dX2_crossed_18 : decode cX2_crossed 18 = .ok (.getfield 21, 3) := by decide +kernel
theorem dX2_crossed_21 : decode cX2_crossed 21 = .ok (.if_icmp .ge 27, 3) := by decide +kernel
theorem dX2_crossed_24 : decode cX2_crossed 24 = .ok (.aload_n 0, 1) := by decide +kernel
theorem dX2_crossed_25 : decode cX2_crossed 25 = .ok (.getfield 9, 3) := by decide +kernel
theorem dX2_crossed_28 : decode cX2_crossed 28 = .ok (.iload_n 3, 1) := by decide +kernel
theorem dX2_crossed_29 : decode cX2_crossed 29 = .ok (.iaload, 1) := by decide +kernel
theorem dX2_crossed_30 : decode cX2_crossed 30 = .ok (.aload_n 0, 1) := by decide +kernel
theorem dX2_crossed_31 : decode cX2_crossed 31 = .ok (.getfield 9, 3) := by decide +kernel
theorem dX2_crossed_34 : decode cX2_crossed 34 = .ok (.iload_n 2, 1) := by decide +kernel
theorem dX2_crossed_35 : decode cX2_crossed 35 = .ok (.iaload, 1) := by decide +kernel
theorem dX2_crossed_36 : decode cX2_crossed 36 = .ok (.if_icmp .ge 6, 3) := by decide +kernel
theorem dX2_crossed_39 : decode cX2_crossed 39 = .ok (.iinc 1 1, 3) := by decide +kernel
theorem dX2_crossed_42 : decode cX2_crossed 42 = .ok (.iinc 3 1, 3) := by decide +kernel
theorem dX2_crossed_45 : decode cX2_crossed 45 = .ok (.goto (-29), 3) := by decide +kernel
theorem dX2_crossed_48 : decode cX2_crossed 48 = .ok (.iinc 2 1, 3) := by decide +kernel
theorem dX2_crossed_51 : decode cX2_crossed 51 = .ok (.goto (-47), 3) := by decide +kernel
theorem dX2_crossed_54 : decode cX2_crossed 54 = .ok (.iload_n 1, 1) := by decide +kernel
theorem dX2_crossed_55 : decode cX2_crossed 55 = .ok (.ireturn, 1) := by decide +kernel
theorem dX2_looseSet_0 : decode cX2_looseSet 0 = .ok (.aload_n 0, 1) := by decide +kernel
theorem dX2_looseSet_1 : decode cX2_looseSet 1 = .ok (.invokevirtual 90, 3) := by decide +kernel
theorem dX2_looseSet_4 : decode cX2_looseSet 4 = .ok (.istore_n 1, 1) := by decide +kernel
theorem dX2_looseSet_5 : decode cX2_looseSet 5 = .ok (.iload_n 1, 1) := by decide +kernel
theorem dX2_looseSet_6 : decode cX2_looseSet 6 = .ok (.istore_n 2, 1) := by decide +kernel
theorem dX2_looseSet_7 : decode cX2_looseSet 7 = .ok (.iconst 0, 1) := by decide +kernel
theorem dX2_looseSet_8 : decode cX2_looseSet 8 = .ok (.istore_n 3, 1) := by decide +kernel
theorem dX2_looseSet_9 : decode cX2_looseSet 9 = .ok (.iload_n 3, 1) := by decide +kernel
theorem dX2_looseSet_10 : decode cX2_looseSet 10 = .ok (.iload_n 1, 1) := by decide +kernel
theorem dX2_looseSet_11 : decode cX2_looseSet 11 = .ok (.if_icmp .ge 50, 3) := by decide +kernel
theorem dX2_looseSet_14 : decode cX2_looseSet 14 = .ok (.iload_n 3, 1) := by decide +kernel
theorem dX2_looseSet_15 : decode cX2_looseSet 15 = .ok (.iload_n 1, 1) := by decide +kernel
theorem dX2_looseSet_16 : decode cX2_looseSet 16 = .ok (.iconst (-1), 1) := by decide +kernel
theorem dX2_looseSet_17 : decode cX2_looseSet 17 = .ok (.ixor, 1) := by decide +kernel
theorem dX2_looseSet_18 : decode cX2_looseSet 18 = .ok (.iand, 1) := by decide +kernel
theorem dX2_looseSet_19 : decode cX2_looseSet 19 = .ok (.ifCond .ne 18, 3) := by decide +kernel
theorem dX2_looseSet_22 : decode cX2_looseSet 22 = .ok (.iload_n 3, 1) := by decide +kernel
theorem dX2_looseSet_23 : decode cX2_looseSet 23 = .ok (.invokestatic 94, 3) := by decide +kernel
theorem dX2_looseSet_26 : decode cX2_looseSet 26 = .ok (.iload_n 2, 1) := by decide +kernel
theorem dX2_looseSet_27 : decode cX2_looseSet 27 = .ok (.invokestatic 94, 3) := by decide +kernel
theorem dX2_looseSet_30 : decode cX2_looseSet 30 = .ok (.if_icmp .ge 7, 3) := by decide +kernel
theorem dX2_looseSet_33 : decode cX2_looseSet 33 = .ok (.iconst 1, 1) := by decide +kernel
theorem dX2_looseSet_34 : decode cX2_looseSet 34 = .ok (.goto 4, 3) := by decide +kernel
theorem dX2_looseSet_37 : decode cX2_looseSet 37 = .ok (.iconst 0, 1) := by decide +kernel
theorem dX2_looseSet_38 : decode cX2_looseSet 38 = .ok (.istore 4, 2) := by decide +kernel
theorem dX2_looseSet_40 : decode cX2_looseSet 40 = .ok (.iload 4, 2) := by decide +kernel
theorem dX2_looseSet_42 : decode cX2_looseSet 42 = .ok (.ifCond .eq 13, 3) := by decide +kernel
theorem dX2_looseSet_45 : decode cX2_looseSet 45 = .ok (.aload_n 0, 1) := by decide +kernel
theorem dX2_looseSet_46 : decode cX2_looseSet 46 = .ok (.iload_n 3, 1) := by decide +kernel
theorem dX2_looseSet_47 : decode cX2_looseSet 47 = .ok (.invokevirtual 100, 3) := by decide +kernel
theorem dX2_looseSet_50 : decode cX2_looseSet 50 = .ok (.ifCond .eq 5, 3) := by decide +kernel
theorem dX2_looseSet_53 : decode cX2_looseSet 53 = .ok (.iload_n 3, 1) := by decide +kernel
theorem dX2_looseSet_54 : decode cX2_looseSet 54 = .ok (.istore_n 2, 1) := by decide +kernel
theorem dX2_looseSet_55 : decode cX2_looseSet 55 = .ok (.iinc 3 1, 3) := by decide +kernel
theorem dX2_looseSet_58 : decode cX2_looseSet 58 = .ok (.goto (-49), 3) := by decide +kernel
theorem dX2_looseSet_61 : decode cX2_looseSet 61 = .ok (.iload_n 2, 1) := by decide +kernel
theorem dX2_looseSet_62 : decode cX2_looseSet 62 = .ok (.ireturn, 1) := by decide +kernel
theorem dX2_risesWithout_0 : decode cX2_risesWithout 0 = .ok (.iconst (-1), 1) := by decide +kernel
theorem dX2_risesWithout_1 : decode cX2_risesWithout 1 = .ok (.istore_n 2, 1) := by decide +kernel
theorem dX2_risesWithout_2 : decode cX2_risesWithout 2 = .ok (.iconst 0, 1) := by decide +kernel
theorem dX2_risesWithout_3 : decode cX2_risesWithout 3 = .ok (.istore_n 3, 1) := by decide +kernel
theorem dX2_risesWithout_4 : decode cX2_risesWithout 4 = .ok (.iload_n 3, 1) := by decide +kernel
theorem dX2_risesWithout_5 : decode cX2_risesWithout 5 = .ok (.aload_n 0, 1) := by decide +kernel
theorem dX2_risesWithout_6 : decode cX2_risesWithout 6 = .ok (.getfield 21, 3) := by decide +kernel
theorem dX2_risesWithout_9 : decode cX2_risesWithout 9 = .ok (.if_icmp .ge 41, 3) := by decide +kernel
theorem dX2_risesWithout_12 : decode cX2_risesWithout 12 = .ok (.iload_n 1, 1) := by decide +kernel
theorem dX2_risesWithout_13 : decode cX2_risesWithout 13 = .ok (.aload_n 0, 1) := by decide +kernel
theorem dX2_risesWithout_14 : decode cX2_risesWithout 14 = .ok (.getfield 9, 3) := by decide +kernel
theorem dX2_risesWithout_17 : decode cX2_risesWithout 17 = .ok (.iload_n 3, 1) := by decide +kernel
theorem dX2_risesWithout_18 : decode cX2_risesWithout 18 = .ok (.iaload, 1) := by decide +kernel
theorem dX2_risesWithout_19 : decode cX2_risesWithout 19 = .ok (.invokestatic 54, 3) := by decide +kernel
theorem dX2_risesWithout_22 : decode cX2_risesWithout 22 = .ok (.ifCond .ne 22, 3) := by decide +kernel
theorem dX2_risesWithout_25 : decode cX2_risesWithout 25 = .ok (.aload_n 0, 1) := by decide +kernel
theorem dX2_risesWithout_26 : decode cX2_risesWithout 26 = .ok (.getfield 9, 3) := by decide +kernel
theorem dX2_risesWithout_29 : decode cX2_risesWithout 29 = .ok (.iload_n 3, 1) := by decide +kernel
theorem dX2_risesWithout_30 : decode cX2_risesWithout 30 = .ok (.iaload, 1) := by decide +kernel
theorem dX2_risesWithout_31 : decode cX2_risesWithout 31 = .ok (.iload_n 2, 1) := by decide +kernel
theorem dX2_risesWithout_32 : decode cX2_risesWithout 32 = .ok (.if_icmp .ge 5, 3) := by decide +kernel
theorem dX2_risesWithout_35 : decode cX2_risesWithout 35 = .ok (.iconst 0, 1) := by decide +kernel
theorem dX2_risesWithout_36 : decode cX2_risesWithout 36 = .ok (.ireturn, 1) := by decide +kernel
theorem dX2_risesWithout_37 : decode cX2_risesWithout 37 = .ok (.aload_n 0, 1) := by decide +kernel
theorem dX2_risesWithout_38 : decode cX2_risesWithout 38 = .ok (.getfield 9, 3) := by decide +kernel
theorem dX2_risesWithout_41 : decode cX2_risesWithout 41 = .ok (.iload_n 3, 1) := by decide +kernel
theorem dX2_risesWithout_42 : decode cX2_risesWithout 42 = .ok (.iaload, 1) := by decide +kernel
theorem dX2_risesWithout_43 : decode cX2_risesWithout 43 = .ok (.istore_n 2, 1) := by decide +kernel
theorem dX2_risesWithout_44 : decode cX2_risesWithout 44 = .ok (.iinc 3 1, 3) := by decide +kernel
theorem dX2_risesWithout_47 : decode cX2_risesWithout 47 = .ok (.goto (-43), 3) := by decide +kernel
theorem dX2_risesWithout_50 : decode cX2_risesWithout 50 = .ok (.iconst 1, 1) := by decide +kernel
theorem dX2_risesWithout_51 : decode cX2_risesWithout 51 = .ok (.ireturn, 1) := by decide +kernel
theorem dX2_pullAt_0 : decode cX2_pullAt 0 = .ok (.iload_n 2, 1) := by decide +kernel
theorem dX2_pullAt_1 : decode cX2_pullAt 1 = .ok (.istore 4, 2) := by decide +kernel
theorem dX2_pullAt_3 : decode cX2_pullAt 3 = .ok (.iconst 0, 1) := by decide +kernel
theorem dX2_pullAt_4 : decode cX2_pullAt 4 = .ok (.istore 5, 2) := by decide +kernel
theorem dX2_pullAt_6 : decode cX2_pullAt 6 = .ok (.iload 5, 2) := by decide +kernel
theorem dX2_pullAt_8 : decode cX2_pullAt 8 = .ok (.aload_n 0, 1) := by decide +kernel
theorem dX2_pullAt_9 : decode cX2_pullAt 9 = .ok (.getfield 21, 3) := by decide +kernel
theorem dX2_pullAt_12 : decode cX2_pullAt 12 = .ok (.if_icmp .ge 60, 3) := by decide +kernel
theorem dX2_pullAt_15 : decode cX2_pullAt 15 = .ok (.iload 5, 2) := by decide +kernel
theorem dX2_pullAt_17 : decode cX2_pullAt 17 = .ok (.iload_n 3, 1) := by decide +kernel
theorem dX2_pullAt_18 : decode cX2_pullAt 18 = .ok (.if_icmp .ge 54, 3) := by decide +kernel
theorem dX2_pullAt_21 : decode cX2_pullAt 21 = .ok (.aload_n 0, 1) := by decide +kernel
theorem dX2_pullAt_22 : decode cX2_pullAt 22 = .ok (.getfield 9, 3) := by decide +kernel
theorem dX2_pullAt_25 : decode cX2_pullAt 25 = .ok (.iload 5, 2) := by decide +kernel
theorem dX2_pullAt_27 : decode cX2_pullAt 27 = .ok (.iaload, 1) := by decide +kernel
theorem dX2_pullAt_28 : decode cX2_pullAt 28 = .ok (.istore 6, 2) := by decide +kernel
theorem dX2_pullAt_30 : decode cX2_pullAt 30 = .ok (.iload 4, 2) := by decide +kernel
theorem dX2_pullAt_32 : decode cX2_pullAt 32 = .ok (.aload_n 0, 1) := by decide +kernel
theorem dX2_pullAt_33 : decode cX2_pullAt 33 = .ok (.getfield 25, 3) := by decide +kernel
theorem dX2_pullAt_36 : decode cX2_pullAt 36 = .ok (.iload 6, 2) := by decide +kernel
theorem dX2_pullAt_38 : decode cX2_pullAt 38 = .ok (.invokestatic 54, 3) := by decide +kernel
theorem dX2_pullAt_41 : decode cX2_pullAt 41 = .ok (.ifCond .eq 15, 3) := by decide +kernel
theorem dX2_pullAt_44 : decode cX2_pullAt 44 = .ok (.iconst 2, 1) := by decide +kernel
theorem dX2_pullAt_45 : decode cX2_pullAt 45 = .ok (.aload_n 1, 1) := by decide +kernel
theorem dX2_pullAt_46 : decode cX2_pullAt 46 = .ok (.getfield 65, 3) := by decide +kernel
theorem dX2_pullAt_49 : decode cX2_pullAt 49 = .ok (.iload 6, 2) := by decide +kernel
theorem dX2_pullAt_51 : decode cX2_pullAt 51 = .ok (.iaload, 1) := by decide +kernel
theorem dX2_pullAt_52 : decode cX2_pullAt 52 = .ok (.imul, 1) := by decide +kernel
theorem dX2_pullAt_53 : decode cX2_pullAt 53 = .ok (.goto 10, 3) := by decide +kernel
theorem dX2_pullAt_56 : decode cX2_pullAt 56 = .ok (.aload_n 1, 1) := by decide +kernel
theorem dX2_pullAt_57 : decode cX2_pullAt 57 = .ok (.getfield 65, 3) := by decide +kernel
theorem dX2_pullAt_60 : decode cX2_pullAt 60 = .ok (.iload 6, 2) := by decide +kernel
theorem dX2_pullAt_62 : decode cX2_pullAt 62 = .ok (.iaload, 1) := by decide +kernel
theorem dX2_pullAt_63 : decode cX2_pullAt 63 = .ok (.isub, 1) := by decide +kernel
theorem dX2_pullAt_64 : decode cX2_pullAt 64 = .ok (.istore 4, 2) := by decide +kernel
theorem dX2_pullAt_66 : decode cX2_pullAt 66 = .ok (.iinc 5 1, 3) := by decide +kernel
theorem dX2_pullAt_69 : decode cX2_pullAt 69 = .ok (.goto (-63), 3) := by decide +kernel
theorem dX2_pullAt_72 : decode cX2_pullAt 72 = .ok (.iconst 0, 1) := by decide +kernel
theorem dX2_pullAt_73 : decode cX2_pullAt 73 = .ok (.iload 4, 2) := by decide +kernel
theorem dX2_pullAt_75 : decode cX2_pullAt 75 = .ok (.invokestatic 103, 3) := by decide +kernel
theorem dX2_pullAt_78 : decode cX2_pullAt 78 = .ok (.ireturn, 1) := by decide +kernel
theorem dX3_init_0 : decode cX3_init 0 = .ok (.aload_n 0, 1) := by decide +kernel
theorem dX3_init_1 : decode cX3_init 1 = .ok (.invokespecial 3, 3) := by decide +kernel
theorem dX3_init_4 : decode cX3_init 4 = .ok (.aload_n 0, 1) := by decide +kernel
theorem dX3_init_5 : decode cX3_init 5 = .ok (.bipush 6, 2) := by decide +kernel
theorem dX3_init_7 : decode cX3_init 7 = .ok (.newarray .int, 2) := by decide +kernel
theorem dX3_init_9 : decode cX3_init 9 = .ok (.putfield 9, 3) := by decide +kernel
theorem dX3_init_12 : decode cX3_init 12 = .ok (.aload_n 0, 1) := by decide +kernel
theorem dX3_init_13 : decode cX3_init 13 = .ok (.bipush 6, 2) := by decide +kernel
theorem dX3_init_15 : decode cX3_init 15 = .ok (.newarray .boolean, 2) := by decide +kernel
theorem dX3_init_17 : decode cX3_init 17 = .ok (.putfield 15, 3) := by decide +kernel
theorem dX3_init_20 : decode cX3_init 20 = .ok (.aload_n 0, 1) := by decide +kernel
theorem dX3_init_21 : decode cX3_init 21 = .ok (.iconst 0, 1) := by decide +kernel
theorem dX3_init_22 : decode cX3_init 22 = .ok (.putfield 19, 3) := by decide +kernel
theorem dX3_init_25 : decode cX3_init 25 = .ok (.return_, 1) := by decide +kernel
theorem dX3_add_0 : decode cX3_add 0 = .ok (.aload_n 0, 1) := by decide +kernel
theorem dX3_add_1 : decode cX3_add 1 = .ok (.getfield 19, 3) := by decide +kernel
theorem dX3_add_4 : decode cX3_add 4 = .ok (.bipush 6, 2) := by decide +kernel
theorem dX3_add_6 : decode cX3_add 6 = .ok (.if_icmp .ge 33, 3) := by decide +kernel
theorem dX3_add_9 : decode cX3_add 9 = .ok (.aload_n 0, 1) := by decide +kernel
theorem dX3_add_10 : decode cX3_add 10 = .ok (.getfield 9, 3) := by decide +kernel
theorem dX3_add_13 : decode cX3_add 13 = .ok (.aload_n 0, 1) := by decide +kernel
theorem dX3_add_14 : decode cX3_add 14 = .ok (.getfield 19, 3) := by decide +kernel
theorem dX3_add_17 : decode cX3_add 17 = .ok (.iload_n 1, 1) := by decide +kernel
theorem dX3_add_18 : decode cX3_add 18 = .ok (.iastore, 1) := by decide +kernel
theorem dX3_add_19 : decode cX3_add 19 = .ok (.aload_n 0, 1) := by decide +kernel
theorem dX3_add_20 : decode cX3_add 20 = .ok (.getfield 15, 3) := by decide +kernel
theorem dX3_add_23 : decode cX3_add 23 = .ok (.aload_n 0, 1) := by decide +kernel
theorem dX3_add_24 : decode cX3_add 24 = .ok (.getfield 19, 3) := by decide +kernel
theorem dX3_add_27 : decode cX3_add 27 = .ok (.iload_n 2, 1) := by decide +kernel
theorem dX3_add_28 : decode cX3_add 28 = .ok (.bastore, 1) := by decide +kernel
theorem dX3_add_29 : decode cX3_add 29 = .ok (.aload_n 0, 1) := by decide +kernel
theorem dX3_add_30 : decode cX3_add 30 = .ok (.dup, 1) := by decide +kernel
theorem dX3_add_31 : decode cX3_add 31 = .ok (.getfield 19, 3) := by decide +kernel
theorem dX3_add_34 : decode cX3_add 34 = .ok (.iconst 1, 1) := by decide +kernel
theorem dX3_add_35 : decode cX3_add 35 = .ok (.iadd, 1) := by decide +kernel
theorem dX3_add_36 : decode cX3_add 36 = .ok (.putfield 19, 3) := by decide +kernel
theorem dX3_add_39 : decode cX3_add 39 = .ok (.return_, 1) := by decide +kernel
theorem dX3_fitting_0 : decode cX3_fitting 0 = .ok (.iload_n 2, 1) := by decide +kernel
theorem dX3_fitting_1 : decode cX3_fitting 1 = .ok (.istore_n 3, 1) := by decide +kernel
theorem dX3_fitting_2 : decode cX3_fitting 2 = .ok (.iconst 0, 1) := by decide +kernel
theorem dX3_fitting_3 : decode cX3_fitting 3 = .ok (.istore 4, 2) := by decide +kernel
theorem dX3_fitting_5 : decode cX3_fitting 5 = .ok (.iload 4, 2) := by decide +kernel
theorem dX3_fitting_7 : decode cX3_fitting 7 = .ok (.aload_n 0, 1) := by decide +kernel
theorem dX3_fitting_8 : decode cX3_fitting 8 = .ok (.getfield 19, 3) := by decide +kernel
theorem dX3_fitting_11 : decode cX3_fitting 11 = .ok (.if_icmp .ge 45, 3) := by decide +kernel
theorem dX3_fitting_14 : decode cX3_fitting 14 = .ok (.aload_n 1, 1) := by decide +kernel
theorem dX3_fitting_15 : decode cX3_fitting 15 = .ok (.iload_n 3, 1) := by decide +kernel
theorem dX3_fitting_16 : decode cX3_fitting 16 = .ok (.aload_n 0, 1) := by decide +kernel
theorem dX3_fitting_17 : decode cX3_fitting 17 = .ok (.getfield 9, 3) := by decide +kernel
theorem dX3_fitting_20 : decode cX3_fitting 20 = .ok (.iload 4, 2) := by decide +kernel
theorem dX3_fitting_22 : decode cX3_fitting 22 = .ok (.iaload, 1) := by decide +kernel
theorem dX3_fitting_23 : decode cX3_fitting 23 = .ok (.invokestatic 23, 3) := by decide +kernel
theorem dX3_fitting_26 : decode cX3_fitting 26 = .ok (.istore 5, 2) := by decide +kernel
theorem dX3_fitting_28 : decode cX3_fitting 28 = .ok (.aload_n 0, 1) := by decide +kernel
theorem dX3_fitting_29 : decode cX3_fitting 29 = .ok (.getfield 15, 3) := by decide +kernel
theorem dX3_fitting_32 : decode cX3_fitting 32 = .ok (.iload 4, 2) := by decide +kernel
theorem dX3_fitting_34 : decode cX3_fitting 34 = .ok (.baload, 1) := by decide +kernel
theorem dX3_fitting_35 : decode cX3_fitting 35 = .ok (.ifCond .eq 8, 3) := by decide +kernel
theorem dX3_fitting_38 : decode cX3_fitting 38 = .ok (.iload 5, 2) := by decide +kernel
theorem dX3_fitting_40 : decode cX3_fitting 40 = .ok (.goto 9, 3) := by decide +kernel
theorem dX3_fitting_43 : decode cX3_fitting 43 = .ok (.iload_n 3, 1) := by decide +kernel
theorem dX3_fitting_44 : decode cX3_fitting 44 = .ok (.iload 5, 2) := by decide +kernel
theorem dX3_fitting_46 : decode cX3_fitting 46 = .ok (.iconst (-1), 1) := by decide +kernel
theorem dX3_fitting_47 : decode cX3_fitting 47 = .ok (.ixor, 1) := by decide +kernel
theorem dX3_fitting_48 : decode cX3_fitting 48 = .ok (.iand, 1) := by decide +kernel
theorem dX3_fitting_49 : decode cX3_fitting 49 = .ok (.istore_n 3, 1) := by decide +kernel
theorem dX3_fitting_50 : decode cX3_fitting 50 = .ok (.iinc 4 1, 3) := by decide +kernel
theorem dX3_fitting_53 : decode cX3_fitting 53 = .ok (.goto (-48), 3) := by decide +kernel
theorem dX3_fitting_56 : decode cX3_fitting 56 = .ok (.iload_n 3, 1) := by decide +kernel
theorem dX3_fitting_57 : decode cX3_fitting 57 = .ok (.ireturn, 1) := by decide +kernel
theorem dX3_bestLook_0 : decode cX3_bestLook 0 = .ok (.iload_n 2, 1) := by decide +kernel
theorem dX3_bestLook_1 : decode cX3_bestLook 1 = .ok (.invokestatic 27, 3) := by decide +kernel
theorem dX3_bestLook_4 : decode cX3_bestLook 4 = .ok (.istore_n 3, 1) := by decide +kernel
theorem dX3_bestLook_5 : decode cX3_bestLook 5 = .ok (.iconst (-1), 1) := by decide +kernel
theorem dX3_bestLook_6 : decode cX3_bestLook 6 = .ok (.istore 4, 2) := by decide +kernel
theorem dX3_bestLook_8 : decode cX3_bestLook 8 = .ok (.iload_n 3, 1) := by decide +kernel
theorem dX3_bestLook_9 : decode cX3_bestLook 9 = .ok (.istore 5, 2) := by decide +kernel
theorem dX3_bestLook_11 : decode cX3_bestLook 11 = .ok (.iconst 0, 1) := by decide +kernel
theorem dX3_bestLook_12 : decode cX3_bestLook 12 = .ok (.istore 6, 2) := by decide +kernel
theorem dX3_bestLook_14 : decode cX3_bestLook 14 = .ok (.iload 6, 2) := by decide +kernel
theorem dX3_bestLook_16 : decode cX3_bestLook 16 = .ok (.bipush 19, 2) := by decide +kernel
theorem dX3_bestLook_18 : decode cX3_bestLook 18 = .ok (.if_icmp .gt 47, 3) := by decide +kernel
theorem dX3_bestLook_21 : decode cX3_bestLook 21 = .ok (.aload_n 1, 1) := by decide +kernel
theorem dX3_bestLook_22 : decode cX3_bestLook 22 = .ok (.iload_n 2, 1) := by decide +kernel
theorem dX3_bestLook_23 : decode cX3_bestLook 23 = .ok (.iload 6, 2) := by decide +kernel
theorem dX3_bestLook_25 : decode cX3_bestLook 25 = .ok (.invokestatic 23, 3) := by decide +kernel
theorem dX3_bestLook_28 : decode cX3_bestLook 28 = .ok (.invokestatic 27, 3) := by decide +kernel
theorem dX3_bestLook_31 : decode cX3_bestLook 31 = .ok (.istore 7, 2) := by decide +kernel
theorem dX3_bestLook_33 : decode cX3_bestLook 33 = .ok (.iload 7, 2) := by decide +kernel
theorem dX3_bestLook_35 : decode cX3_bestLook 35 = .ok (.iload_n 3, 1) := by decide +kernel
theorem dX3_bestLook_36 : decode cX3_bestLook 36 = .ok (.iload 7, 2) := by decide +kernel
theorem dX3_bestLook_38 : decode cX3_bestLook 38 = .ok (.isub, 1) := by decide +kernel
theorem dX3_bestLook_39 : decode cX3_bestLook 39 = .ok (.invokestatic 33, 3) := by decide +kernel
theorem dX3_bestLook_42 : decode cX3_bestLook 42 = .ok (.istore 8, 2) := by decide +kernel
theorem dX3_bestLook_44 : decode cX3_bestLook 44 = .ok (.iload 8, 2) := by decide +kernel
theorem dX3_bestLook_46 : decode cX3_bestLook 46 = .ok (.iload 5, 2) := by decide +kernel
theorem dX3_bestLook_48 : decode cX3_bestLook 48 = .ok (.if_icmp .ge 11, 3) := by decide +kernel
theorem dX3_bestLook_51 : decode cX3_bestLook 51 = .ok (.iload 8, 2) := by decide +kernel
theorem dX3_bestLook_53 : decode cX3_bestLook 53 = .ok (.istore 5, 2) := by decide +kernel
theorem dX3_bestLook_55 : decode cX3_bestLook 55 = .ok (.iload 6, 2) := by decide +kernel
theorem dX3_bestLook_57 : decode cX3_bestLook 57 = .ok (.istore 4, 2) := by decide +kernel
theorem dX3_bestLook_59 : decode cX3_bestLook 59 = .ok (.iinc 6 1, 3) := by decide +kernel
theorem dX3_bestLook_62 : decode cX3_bestLook 62 = .ok (.goto (-48), 3) := by decide +kernel
theorem dX3_bestLook_65 : decode cX3_bestLook 65 = .ok (.iload 4, 2) := by decide +kernel
theorem dX3_bestLook_67 : decode cX3_bestLook 67 = .ok (.ireturn, 1) := by decide +kernel
theorem dX3_answering_0 : decode cX3_answering 0 = .ok (.iconst 0, 1) := by decide +kernel
theorem dX3_answering_1 : decode cX3_answering 1 = .ok (.istore_n 3, 1) := by decide +kernel
theorem dX3_answering_2 : decode cX3_answering 2 = .ok (.iconst 0, 1) := by decide +kernel
theorem dX3_answering_3 : decode cX3_answering 3 = .ok (.istore 4, 2) := by decide +kernel
theorem dX3_answering_5 : decode cX3_answering 5 = .ok (.iload 4, 2) := by decide +kernel
theorem dX3_answering_7 : decode cX3_answering 7 = .ok (.aload_n 0, 1) := by decide +kernel
theorem dX3_answering_8 : decode cX3_answering 8 = .ok (.getfield 39, 3) := by decide +kernel
theorem dX3_answering_11 : decode cX3_answering 11 = .ok (.if_icmp .ge 62, 3) := by decide +kernel
theorem dX3_answering_14 : decode cX3_answering 14 = .ok (.aload_n 0, 1) := by decide +kernel
theorem dX3_answering_15 : decode cX3_answering 15 = .ok (.getfield 44, 3) := by decide +kernel
theorem dX3_answering_18 : decode cX3_answering 18 = .ok (.iload 4, 2) := by decide +kernel
theorem dX3_answering_20 : decode cX3_answering 20 = .ok (.iaload, 1) := by decide +kernel
theorem dX3_answering_21 : decode cX3_answering 21 = .ok (.iload_n 2, 1) := by decide +kernel
theorem dX3_answering_22 : decode cX3_answering 22 = .ok (.if_icmp .eq 17, 3) := by decide +kernel
theorem dX3_answering_25 : decode cX3_answering 25 = .ok (.aload_n 0, 1) := by decide +kernel
theorem dX3_answering_26 : decode cX3_answering 26 = .ok (.getfield 47, 3) := by decide +kernel
theorem dX3_answering_29 : decode cX3_answering 29 = .ok (.iload 4, 2) := by decide +kernel
theorem dX3_answering_31 : decode cX3_answering 31 = .ok (.iaload, 1) := by decide +kernel
theorem dX3_answering_32 : decode cX3_answering 32 = .ok (.bipush 10, 2) := by decide +kernel
theorem dX3_answering_34 : decode cX3_answering 34 = .ok (.iadd, 1) := by decide +kernel
theorem dX3_answering_35 : decode cX3_answering 35 = .ok (.iload_n 2, 1) := by decide +kernel
theorem dX3_answering_36 : decode cX3_answering 36 = .ok (.if_icmp .ne 7, 3) := by decide +kernel
theorem dX3_answering_39 : decode cX3_answering 39 = .ok (.iconst 1, 1) := by decide +kernel
theorem dX3_answering_40 : decode cX3_answering 40 = .ok (.goto 4, 3) := by decide +kernel
theorem dX3_answering_43 : decode cX3_answering 43 = .ok (.iconst 0, 1) := by decide +kernel
theorem dX3_answering_44 : decode cX3_answering 44 = .ok (.istore 5, 2) := by decide +kernel
theorem dX3_answering_46 : decode cX3_answering 46 = .ok (.iload 5, 2) := by decide +kernel
theorem dX3_answering_48 : decode cX3_answering 48 = .ok (.ifCond .eq 19, 3) := by decide +kernel
theorem dX3_answering_51 : decode cX3_answering 51 = .ok (.iload_n 1, 1) := by decide +kernel
theorem dX3_answering_52 : decode cX3_answering 52 = .ok (.iload 4, 2) := by decide +kernel
theorem dX3_answering_54 : decode cX3_answering 54 = .ok (.invokestatic 50, 3) := by decide +kernel
theorem dX3_answering_57 : decode cX3_answering 57 = .ok (.ifCond .eq 10, 3) := by decide +kernel
theorem dX3_answering_60 : decode cX3_answering 60 = .ok (.iload_n 3, 1) := by decide +kernel
theorem dX3_answering_61 : decode cX3_answering 61 = .ok (.iconst 1, 1) := by decide +kernel
theorem dX3_answering_62 : decode cX3_answering 62 = .ok (.iload 4, 2) := by decide +kernel
theorem dX3_answering_64 : decode cX3_answering 64 = .ok (.ishl, 1) := by decide +kernel
theorem dX3_answering_65 : decode cX3_answering 65 = .ok (.ior, 1) := by decide +kernel
theorem dX3_answering_66 : decode cX3_answering 66 = .ok (.istore_n 3, 1) := by decide +kernel
theorem dX3_answering_67 : decode cX3_answering 67 = .ok (.iinc 4 1, 3) := by decide +kernel
theorem dX3_answering_70 : decode cX3_answering 70 = .ok (.goto (-65), 3) := by decide +kernel
theorem dX3_answering_73 : decode cX3_answering 73 = .ok (.iload_n 3, 1) := by decide +kernel
theorem dX3_answering_74 : decode cX3_answering 74 = .ok (.ireturn, 1) := by decide +kernel
theorem dX4_init_0 : decode cX4_init 0 = .ok (.aload_n 0, 1) := by decide +kernel
theorem dX4_init_1 : decode cX4_init 1 = .ok (.invokespecial 3, 3) := by decide +kernel
theorem dX4_init_4 : decode cX4_init 4 = .ok (.aload_n 0, 1) := by decide +kernel
theorem dX4_init_5 : decode cX4_init 5 = .ok (.bipush 30, 2) := by decide +kernel
theorem dX4_init_7 : decode cX4_init 7 = .ok (.anewarray 9, 3) := by decide +kernel
theorem dX4_init_10 : decode cX4_init 10 = .ok (.putfield 11, 3) := by decide +kernel
theorem dX4_init_13 : decode cX4_init 13 = .ok (.aload_n 0, 1) := by decide +kernel
theorem dX4_init_14 : decode cX4_init 14 = .ok (.iconst 0, 1) := by decide +kernel
theorem dX4_init_15 : decode cX4_init 15 = .ok (.putfield 17, 3) := by decide +kernel
theorem dX4_init_18 : decode cX4_init 18 = .ok (.aload_n 0, 1) := by decide +kernel
theorem dX4_init_19 : decode cX4_init 19 = .ok (.iconst 0, 1) := by decide +kernel
theorem dX4_init_20 : decode cX4_init 20 = .ok (.putfield 21, 3) := by decide +kernel
theorem dX4_init_23 : decode cX4_init 23 = .ok (.iconst 0, 1) := by decide +kernel
theorem dX4_init_24 : decode cX4_init 24 = .ok (.istore_n 1, 1) := by decide +kernel
theorem dX4_init_25 : decode cX4_init 25 = .ok (.iload_n 1, 1) := by decide +kernel
theorem dX4_init_26 : decode cX4_init 26 = .ok (.bipush 30, 2) := by decide +kernel
theorem dX4_init_28 : decode cX4_init 28 = .ok (.if_icmp .ge 22, 3) := by decide +kernel
theorem dX4_init_31 : decode cX4_init 31 = .ok (.aload_n 0, 1) := by decide +kernel
theorem dX4_init_32 : decode cX4_init 32 = .ok (.getfield 11, 3) := by decide +kernel
theorem dX4_init_35 : decode cX4_init 35 = .ok (.iload_n 1, 1) := by decide +kernel
theorem dX4_init_36 : decode cX4_init 36 = .ok (.new 9, 3) := by decide +kernel
theorem dX4_init_39 : decode cX4_init 39 = .ok (.dup, 1) := by decide +kernel
theorem dX4_init_40 : decode cX4_init 40 = .ok (.invokespecial 24, 3) := by decide +kernel
theorem dX4_init_43 : decode cX4_init 43 = .ok (.aastore, 1) := by decide +kernel
theorem dX4_init_44 : decode cX4_init 44 = .ok (.iinc 1 1, 3) := by decide +kernel
theorem dX4_init_47 : decode cX4_init 47 = .ok (.goto (-22), 3) := by decide +kernel
theorem dX4_init_50 : decode cX4_init 50 = .ok (.return_, 1) := by decide +kernel
theorem dX4_forget_0 : decode cX4_forget 0 = .ok (.aload_n 0, 1) := by decide +kernel
theorem dX4_forget_1 : decode cX4_forget 1 = .ok (.iconst 0, 1) := by decide +kernel
theorem dX4_forget_2 : decode cX4_forget 2 = .ok (.putfield 21, 3) := by decide +kernel
theorem dX4_forget_5 : decode cX4_forget 5 = .ok (.return_, 1) := by decide +kernel
theorem dX4_remember_0 : decode cX4_remember 0 = .ok (.aload_n 0, 1) := by decide +kernel
theorem dX4_remember_1 : decode cX4_remember 1 = .ok (.getfield 11, 3) := by decide +kernel
theorem dX4_remember_4 : decode cX4_remember 4 = .ok (.aload_n 0, 1) := by decide +kernel
theorem dX4_remember_5 : decode cX4_remember 5 = .ok (.getfield 17, 3) := by decide +kernel
theorem dX4_remember_8 : decode cX4_remember 8 = .ok (.aaload, 1) := by decide +kernel
theorem dX4_remember_9 : decode cX4_remember 9 = .ok (.aload_n 1, 1) := by decide +kernel
theorem dX4_remember_10 : decode cX4_remember 10 = .ok (.invokevirtual 25, 3) := by decide +kernel
theorem dX4_remember_13 : decode cX4_remember 13 = .ok (.aload_n 0, 1) := by decide +kernel
theorem dX4_remember_14 : decode cX4_remember 14 = .ok (.aload_n 0, 1) := by decide +kernel
theorem dX4_remember_15 : decode cX4_remember 15 = .ok (.getfield 17, 3) := by decide +kernel
theorem dX4_remember_18 : decode cX4_remember 18 = .ok (.iconst 1, 1) := by decide +kernel
theorem dX4_remember_19 : decode cX4_remember 19 = .ok (.iadd, 1) := by decide +kernel
theorem dX4_remember_20 : decode cX4_remember 20 = .ok (.bipush 30, 2) := by decide +kernel
theorem dX4_remember_22 : decode cX4_remember 22 = .ok (.irem, 1) := by decide +kernel
theorem dX4_remember_23 : decode cX4_remember 23 = .ok (.putfield 17, 3) := by decide +kernel
theorem dX4_remember_26 : decode cX4_remember 26 = .ok (.aload_n 0, 1) := by decide +kernel
theorem dX4_remember_27 : decode cX4_remember 27 = .ok (.aload_n 0, 1) := by decide +kernel
theorem dX4_remember_28 : decode cX4_remember 28 = .ok (.getfield 21, 3) := by decide +kernel
theorem dX4_remember_31 : decode cX4_remember 31 = .ok (.iconst 1, 1) := by decide +kernel
theorem dX4_remember_32 : decode cX4_remember 32 = .ok (.iadd, 1) := by decide +kernel
theorem dX4_remember_33 : decode cX4_remember 33 = .ok (.bipush 30, 2) := by decide +kernel
theorem dX4_remember_35 : decode cX4_remember 35 = .ok (.invokestatic 29, 3) := by decide +kernel
theorem dX4_remember_38 : decode cX4_remember 38 = .ok (.putfield 21, 3) := by decide +kernel
theorem dX4_remember_41 : decode cX4_remember 41 = .ok (.return_, 1) := by decide +kernel
theorem dX4_bringBack_0 : decode cX4_bringBack 0 = .ok (.aload_n 0, 1) := by decide +kernel
theorem dX4_bringBack_1 : decode cX4_bringBack 1 = .ok (.aload_n 0, 1) := by decide +kernel
theorem dX4_bringBack_2 : decode cX4_bringBack 2 = .ok (.getfield 17, 3) := by decide +kernel
theorem dX4_bringBack_5 : decode cX4_bringBack 5 = .ok (.iload_n 1, 1) := by decide +kernel
theorem dX4_bringBack_6 : decode cX4_bringBack 6 = .ok (.isub, 1) := by decide +kernel
theorem dX4_bringBack_7 : decode cX4_bringBack 7 = .ok (.bipush 30, 2) := by decide +kernel
theorem dX4_bringBack_9 : decode cX4_bringBack 9 = .ok (.invokestatic 35, 3) := by decide +kernel
theorem dX4_bringBack_12 : decode cX4_bringBack 12 = .ok (.putfield 17, 3) := by decide +kernel
theorem dX4_bringBack_15 : decode cX4_bringBack 15 = .ok (.aload_n 0, 1) := by decide +kernel
theorem dX4_bringBack_16 : decode cX4_bringBack 16 = .ok (.dup, 1) := by decide +kernel
theorem dX4_bringBack_17 : decode cX4_bringBack 17 = .ok (.getfield 21, 3) := by decide +kernel
theorem dX4_bringBack_20 : decode cX4_bringBack 20 = .ok (.iload_n 1, 1) := by decide +kernel
theorem dX4_bringBack_21 : decode cX4_bringBack 21 = .ok (.isub, 1) := by decide +kernel
theorem dX4_bringBack_22 : decode cX4_bringBack 22 = .ok (.putfield 21, 3) := by decide +kernel
theorem dX4_bringBack_25 : decode cX4_bringBack 25 = .ok (.aload_n 2, 1) := by decide +kernel
theorem dX4_bringBack_26 : decode cX4_bringBack 26 = .ok (.aload_n 0, 1) := by decide +kernel
theorem dX4_bringBack_27 : decode cX4_bringBack 27 = .ok (.getfield 11, 3) := by decide +kernel
theorem dX4_bringBack_30 : decode cX4_bringBack 30 = .ok (.aload_n 0, 1) := by decide +kernel
theorem dX4_bringBack_31 : decode cX4_bringBack 31 = .ok (.getfield 17, 3) := by decide +kernel
theorem dX4_bringBack_34 : decode cX4_bringBack 34 = .ok (.aaload, 1) := by decide +kernel
theorem dX4_bringBack_35 : decode cX4_bringBack 35 = .ok (.invokevirtual 25, 3) := by decide +kernel
theorem dX4_bringBack_38 : decode cX4_bringBack 38 = .ok (.return_, 1) := by decide +kernel
theorem dX5_init_0 : decode cX5_init 0 = .ok (.aload_n 0, 1) := by decide +kernel
theorem dX5_init_1 : decode cX5_init 1 = .ok (.invokespecial 3, 3) := by decide +kernel
theorem dX5_init_4 : decode cX5_init 4 = .ok (.aload_n 0, 1) := by decide +kernel
theorem dX5_init_5 : decode cX5_init 5 = .ok (.bipush 7, 2) := by decide +kernel
theorem dX5_init_7 : decode cX5_init 7 = .ok (.newarray .int, 2) := by decide +kernel
theorem dX5_init_9 : decode cX5_init 9 = .ok (.putfield 9, 3) := by decide +kernel
theorem dX5_init_12 : decode cX5_init 12 = .ok (.aload_n 0, 1) := by decide +kernel
theorem dX5_init_13 : decode cX5_init 13 = .ok (.bipush 7, 2) := by decide +kernel
theorem dX5_init_15 : decode cX5_init 15 = .ok (.newarray .int, 2) := by decide +kernel
theorem dX5_init_17 : decode cX5_init 17 = .ok (.putfield 15, 3) := by decide +kernel
theorem dX5_init_20 : decode cX5_init 20 = .ok (.aload_n 0, 1) := by decide +kernel
theorem dX5_init_21 : decode cX5_init 21 = .ok (.bipush 24, 2) := by decide +kernel
theorem dX5_init_23 : decode cX5_init 23 = .ok (.newarray .int, 2) := by decide +kernel
theorem dX5_init_25 : decode cX5_init 25 = .ok (.putfield 18, 3) := by decide +kernel
theorem dX5_init_28 : decode cX5_init 28 = .ok (.aload_n 0, 1) := by decide +kernel
theorem dX5_init_29 : decode cX5_init 29 = .ok (.bipush 6, 2) := by decide +kernel
theorem dX5_init_31 : decode cX5_init 31 = .ok (.newarray .int, 2) := by decide +kernel
theorem dX5_init_33 : decode cX5_init 33 = .ok (.putfield 21, 3) := by decide +kernel
theorem dX5_init_36 : decode cX5_init 36 = .ok (.aload_n 0, 1) := by decide +kernel
theorem dX5_init_37 : decode cX5_init 37 = .ok (.iconst 5, 1) := by decide +kernel
theorem dX5_init_38 : decode cX5_init 38 = .ok (.newarray .int, 2) := by decide +kernel
theorem dX5_init_40 : decode cX5_init 40 = .ok (.putfield 24, 3) := by decide +kernel
theorem dX5_init_43 : decode cX5_init 43 = .ok (.aload_n 0, 1) := by decide +kernel
theorem dX5_init_44 : decode cX5_init 44 = .ok (.iconst 5, 1) := by decide +kernel
theorem dX5_init_45 : decode cX5_init 45 = .ok (.newarray .int, 2) := by decide +kernel
theorem dX5_init_47 : decode cX5_init 47 = .ok (.putfield 27, 3) := by decide +kernel
theorem dX5_init_50 : decode cX5_init 50 = .ok (.aload_n 0, 1) := by decide +kernel
theorem dX5_init_51 : decode cX5_init 51 = .ok (.iconst 0, 1) := by decide +kernel
theorem dX5_init_52 : decode cX5_init 52 = .ok (.putfield 30, 3) := by decide +kernel
theorem dX5_init_55 : decode cX5_init 55 = .ok (.aload_n 0, 1) := by decide +kernel
theorem dX5_init_56 : decode cX5_init 56 = .ok (.iconst 0, 1) := by decide +kernel
theorem dX5_init_57 : decode cX5_init 57 = .ok (.putfield 34, 3) := by decide +kernel
theorem dX5_init_60 : decode cX5_init 60 = .ok (.aload_n 0, 1) := by decide +kernel
theorem dX5_init_61 : decode cX5_init 61 = .ok (.iconst 0, 1) := by decide +kernel
theorem dX5_init_62 : decode cX5_init 62 = .ok (.putfield 38, 3) := by decide +kernel
theorem dX5_init_65 : decode cX5_init 65 = .ok (.aload_n 0, 1) := by decide +kernel
theorem dX5_init_66 : decode cX5_init 66 = .ok (.iconst 0, 1) := by decide +kernel
theorem dX5_init_67 : decode cX5_init 67 = .ok (.putfield 41, 3) := by decide +kernel
theorem dX5_init_70 : decode cX5_init 70 = .ok (.aload_n 0, 1) := by decide +kernel
theorem dX5_init_71 : decode cX5_init 71 = .ok (.iconst 0, 1) := by decide +kernel
theorem dX5_init_72 : decode cX5_init 72 = .ok (.putfield 44, 3) := by decide +kernel
theorem dX5_init_75 : decode cX5_init 75 = .ok (.return_, 1) := by decide +kernel
theorem dX5_clear_0 : decode cX5_clear 0 = .ok (.aload_n 0, 1) := by decide +kernel
theorem dX5_clear_1 : decode cX5_clear 1 = .ok (.iconst 0, 1) := by decide +kernel
theorem dX5_clear_2 : decode cX5_clear 2 = .ok (.putfield 30, 3) := by decide +kernel
theorem dX5_clear_5 : decode cX5_clear 5 = .ok (.aload_n 0, 1) := by decide +kernel
theorem dX5_clear_6 : decode cX5_clear 6 = .ok (.iconst 0, 1) := by decide +kernel
theorem dX5_clear_7 : decode cX5_clear 7 = .ok (.putfield 34, 3) := by decide +kernel
theorem dX5_clear_10 : decode cX5_clear 10 = .ok (.aload_n 0, 1) := by decide +kernel
theorem dX5_clear_11 : decode cX5_clear 11 = .ok (.iconst 0, 1) := by decide +kernel
theorem dX5_clear_12 : decode cX5_clear 12 = .ok (.putfield 38, 3) := by decide +kernel
theorem dX5_clear_15 : decode cX5_clear 15 = .ok (.aload_n 0, 1) := by decide +kernel
theorem dX5_clear_16 : decode cX5_clear 16 = .ok (.iconst 0, 1) := by decide +kernel
theorem dX5_clear_17 : decode cX5_clear 17 = .ok (.putfield 41, 3) := by decide +kernel
theorem dX5_clear_20 : decode cX5_clear 20 = .ok (.aload_n 0, 1) := by decide +kernel
theorem dX5_clear_21 : decode cX5_clear 21 = .ok (.iconst 0, 1) := by decide +kernel
theorem dX5_clear_22 : decode cX5_clear 22 = .ok (.putfield 44, 3) := by decide +kernel
theorem dX5_clear_25 : decode cX5_clear 25 = .ok (.return_, 1) := by decide +kernel
theorem dX5_copyFrom_0 : decode cX5_copyFrom 0 = .ok (.aload_n 1, 1) := by decide +kernel
theorem dX5_copyFrom_1 : decode cX5_copyFrom 1 = .ok (.getfield 9, 3) := by decide +kernel
theorem dX5_copyFrom_4 : decode cX5_copyFrom 4 = .ok (.iconst 0, 1) := by decide +kernel
theorem dX5_copyFrom_5 : decode cX5_copyFrom 5 = .ok (.aload_n 0, 1) := by decide +kernel
theorem dX5_copyFrom_6 : decode cX5_copyFrom 6 = .ok (.getfield 9, 3) := by decide +kernel
theorem dX5_copyFrom_9 : decode cX5_copyFrom 9 = .ok (.iconst 0, 1) := by decide +kernel
theorem dX5_copyFrom_10 : decode cX5_copyFrom 10 = .ok (.bipush 7, 2) := by decide +kernel
theorem dX5_copyFrom_12 : decode cX5_copyFrom 12 = .ok (.invokestatic 47, 3) := by decide +kernel
theorem dX5_copyFrom_15 : decode cX5_copyFrom 15 = .ok (.aload_n 1, 1) := by decide +kernel
theorem dX5_copyFrom_16 : decode cX5_copyFrom 16 = .ok (.getfield 15, 3) := by decide +kernel
theorem dX5_copyFrom_19 : decode cX5_copyFrom 19 = .ok (.iconst 0, 1) := by decide +kernel
theorem dX5_copyFrom_20 : decode cX5_copyFrom 20 = .ok (.aload_n 0, 1) := by decide +kernel
theorem dX5_copyFrom_21 : decode cX5_copyFrom 21 = .ok (.getfield 15, 3) := by decide +kernel
theorem dX5_copyFrom_24 : decode cX5_copyFrom 24 = .ok (.iconst 0, 1) := by decide +kernel
theorem dX5_copyFrom_25 : decode cX5_copyFrom 25 = .ok (.bipush 7, 2) := by decide +kernel
theorem dX5_copyFrom_27 : decode cX5_copyFrom 27 = .ok (.invokestatic 47, 3) := by decide +kernel
theorem dX5_copyFrom_30 : decode cX5_copyFrom 30 = .ok (.aload_n 1, 1) := by decide +kernel
theorem dX5_copyFrom_31 : decode cX5_copyFrom 31 = .ok (.getfield 18, 3) := by decide +kernel
theorem dX5_copyFrom_34 : decode cX5_copyFrom 34 = .ok (.iconst 0, 1) := by decide +kernel
theorem dX5_copyFrom_35 : decode cX5_copyFrom 35 = .ok (.aload_n 0, 1) := by decide +kernel
theorem dX5_copyFrom_36 : decode cX5_copyFrom 36 = .ok (.getfield 18, 3) := by decide +kernel
theorem dX5_copyFrom_39 : decode cX5_copyFrom 39 = .ok (.iconst 0, 1) := by decide +kernel
theorem dX5_copyFrom_40 : decode cX5_copyFrom 40 = .ok (.bipush 24, 2) := by decide +kernel
theorem dX5_copyFrom_42 : decode cX5_copyFrom 42 = .ok (.invokestatic 47, 3) := by decide +kernel
theorem dX5_copyFrom_45 : decode cX5_copyFrom 45 = .ok (.aload_n 1, 1) := by decide +kernel
theorem dX5_copyFrom_46 : decode cX5_copyFrom 46 = .ok (.getfield 21, 3) := by decide +kernel
theorem dX5_copyFrom_49 : decode cX5_copyFrom 49 = .ok (.iconst 0, 1) := by decide +kernel
theorem dX5_copyFrom_50 : decode cX5_copyFrom 50 = .ok (.aload_n 0, 1) := by decide +kernel
theorem dX5_copyFrom_51 : decode cX5_copyFrom 51 = .ok (.getfield 21, 3) := by decide +kernel
theorem dX5_copyFrom_54 : decode cX5_copyFrom 54 = .ok (.iconst 0, 1) := by decide +kernel
theorem dX5_copyFrom_55 : decode cX5_copyFrom 55 = .ok (.bipush 6, 2) := by decide +kernel
theorem dX5_copyFrom_57 : decode cX5_copyFrom 57 = .ok (.invokestatic 47, 3) := by decide +kernel
theorem dX5_copyFrom_60 : decode cX5_copyFrom 60 = .ok (.aload_n 1, 1) := by decide +kernel
theorem dX5_copyFrom_61 : decode cX5_copyFrom 61 = .ok (.getfield 24, 3) := by decide +kernel
theorem dX5_copyFrom_64 : decode cX5_copyFrom 64 = .ok (.iconst 0, 1) := by decide +kernel
theorem dX5_copyFrom_65 : decode cX5_copyFrom 65 = .ok (.aload_n 0, 1) := by decide +kernel
theorem dX5_copyFrom_66 : decode cX5_copyFrom 66 = .ok (.getfield 24, 3) := by decide +kernel
theorem dX5_copyFrom_69 : decode cX5_copyFrom 69 = .ok (.iconst 0, 1) := by decide +kernel
theorem dX5_copyFrom_70 : decode cX5_copyFrom 70 = .ok (.iconst 5, 1) := by decide +kernel
theorem dX5_copyFrom_71 : decode cX5_copyFrom 71 = .ok (.invokestatic 47, 3) := by decide +kernel
theorem dX5_copyFrom_74 : decode cX5_copyFrom 74 = .ok (.aload_n 1, 1) := by decide +kernel
theorem dX5_copyFrom_75 : decode cX5_copyFrom 75 = .ok (.getfield 27, 3) := by decide +kernel
theorem dX5_copyFrom_78 : decode cX5_copyFrom 78 = .ok (.iconst 0, 1) := by decide +kernel
theorem dX5_copyFrom_79 : decode cX5_copyFrom 79 = .ok (.aload_n 0, 1) := by decide +kernel
theorem dX5_copyFrom_80 : decode cX5_copyFrom 80 = .ok (.getfield 27, 3) := by decide +kernel
theorem dX5_copyFrom_83 : decode cX5_copyFrom 83 = .ok (.iconst 0, 1) := by decide +kernel
theorem dX5_copyFrom_84 : decode cX5_copyFrom 84 = .ok (.iconst 5, 1) := by decide +kernel
theorem dX5_copyFrom_85 : decode cX5_copyFrom 85 = .ok (.invokestatic 47, 3) := by decide +kernel
theorem dX5_copyFrom_88 : decode cX5_copyFrom 88 = .ok (.aload_n 0, 1) := by decide +kernel
theorem dX5_copyFrom_89 : decode cX5_copyFrom 89 = .ok (.aload_n 1, 1) := by decide +kernel
theorem dX5_copyFrom_90 : decode cX5_copyFrom 90 = .ok (.getfield 30, 3) := by decide +kernel
theorem dX5_copyFrom_93 : decode cX5_copyFrom 93 = .ok (.putfield 30, 3) := by decide +kernel
theorem dX5_copyFrom_96 : decode cX5_copyFrom 96 = .ok (.aload_n 0, 1) := by decide +kernel
theorem dX5_copyFrom_97 : decode cX5_copyFrom 97 = .ok (.aload_n 1, 1) := by decide +kernel
theorem dX5_copyFrom_98 : decode cX5_copyFrom 98 = .ok (.getfield 34, 3) := by decide +kernel
theorem dX5_copyFrom_101 : decode cX5_copyFrom 101 = .ok (.putfield 34, 3) := by decide +kernel
theorem dX5_copyFrom_104 : decode cX5_copyFrom 104 = .ok (.aload_n 0, 1) := by decide +kernel
theorem dX5_copyFrom_105 : decode cX5_copyFrom 105 = .ok (.aload_n 1, 1) := by decide +kernel
theorem dX5_copyFrom_106 : decode cX5_copyFrom 106 = .ok (.getfield 38, 3) := by decide +kernel
theorem dX5_copyFrom_109 : decode cX5_copyFrom 109 = .ok (.putfield 38, 3) := by decide +kernel
theorem dX5_copyFrom_112 : decode cX5_copyFrom 112 = .ok (.aload_n 0, 1) := by decide +kernel
theorem dX5_copyFrom_113 : decode cX5_copyFrom 113 = .ok (.aload_n 1, 1) := by decide +kernel
theorem dX5_copyFrom_114 : decode cX5_copyFrom 114 = .ok (.getfield 41, 3) := by decide +kernel
theorem dX5_copyFrom_117 : decode cX5_copyFrom 117 = .ok (.putfield 41, 3) := by decide +kernel
theorem dX5_copyFrom_120 : decode cX5_copyFrom 120 = .ok (.aload_n 0, 1) := by decide +kernel
theorem dX5_copyFrom_121 : decode cX5_copyFrom 121 = .ok (.aload_n 1, 1) := by decide +kernel
theorem dX5_copyFrom_122 : decode cX5_copyFrom 122 = .ok (.getfield 44, 3) := by decide +kernel
theorem dX5_copyFrom_125 : decode cX5_copyFrom 125 = .ok (.putfield 44, 3) := by decide +kernel
theorem dX5_copyFrom_128 : decode cX5_copyFrom 128 = .ok (.return_, 1) := by decide +kernel
theorem dX5_hasFlag_0 : decode cX5_hasFlag 0 = .ok (.iload_n 1, 1) := by decide +kernel
theorem dX5_hasFlag_1 : decode cX5_hasFlag 1 = .ok (.ifCond .lt 15, 3) := by decide +kernel
theorem dX5_hasFlag_4 : decode cX5_hasFlag 4 = .ok (.iload_n 1, 1) := by decide +kernel
theorem dX5_hasFlag_5 : decode cX5_hasFlag 5 = .ok (.aload_n 0, 1) := by decide +kernel
theorem dX5_hasFlag_6 : decode cX5_hasFlag 6 = .ok (.getfield 38, 3) := by decide +kernel
theorem dX5_hasFlag_9 : decode cX5_hasFlag 9 = .ok (.if_icmp .ge 7, 3) := by decide +kernel
theorem dX5_hasFlag_12 : decode cX5_hasFlag 12 = .ok (.iconst 1, 1) := by decide +kernel
theorem dX5_hasFlag_13 : decode cX5_hasFlag 13 = .ok (.goto 4, 3) := by decide +kernel
theorem dX5_hasFlag_16 : decode cX5_hasFlag 16 = .ok (.iconst 0, 1) := by decide +kernel
theorem dX5_hasFlag_17 : decode cX5_hasFlag 17 = .ok (.ireturn, 1) := by decide +kernel
theorem dX5_allFlags_0 : decode cX5_allFlags 0 = .ok (.iconst 1, 1) := by decide +kernel
theorem dX5_allFlags_1 : decode cX5_allFlags 1 = .ok (.aload_n 0, 1) := by decide +kernel
theorem dX5_allFlags_2 : decode cX5_allFlags 2 = .ok (.getfield 38, 3) := by decide +kernel
theorem dX5_allFlags_5 : decode cX5_allFlags 5 = .ok (.ishl, 1) := by decide +kernel
theorem dX5_allFlags_6 : decode cX5_allFlags 6 = .ok (.iconst 1, 1) := by decide +kernel
theorem dX5_allFlags_7 : decode cX5_allFlags 7 = .ok (.isub, 1) := by decide +kernel
theorem dX5_allFlags_8 : decode cX5_allFlags 8 = .ok (.ireturn, 1) := by decide +kernel
theorem dX5_wordKind_0 : decode cX5_wordKind 0 = .ok (.aload_n 0, 1) := by decide +kernel
theorem dX5_wordKind_1 : decode cX5_wordKind 1 = .ok (.getfield 18, 3) := by decide +kernel
theorem dX5_wordKind_4 : decode cX5_wordKind 4 = .ok (.iload_n 1, 1) := by decide +kernel
theorem dX5_wordKind_5 : decode cX5_wordKind 5 = .ok (.iconst 4, 1) := by decide +kernel
theorem dX5_wordKind_6 : decode cX5_wordKind 6 = .ok (.imul, 1) := by decide +kernel
theorem dX5_wordKind_7 : decode cX5_wordKind 7 = .ok (.iload_n 2, 1) := by decide +kernel
theorem dX5_wordKind_8 : decode cX5_wordKind 8 = .ok (.iadd, 1) := by decide +kernel
theorem dX5_wordKind_9 : decode cX5_wordKind 9 = .ok (.iaload, 1) := by decide +kernel
theorem dX5_wordKind_10 : decode cX5_wordKind 10 = .ok (.ireturn, 1) := by decide +kernel
theorem dX5_placesOfHook_0 : decode cX5_placesOfHook 0 = .ok (.iconst 0, 1) := by decide +kernel
theorem dX5_placesOfHook_1 : decode cX5_placesOfHook 1 = .ok (.istore_n 2, 1) := by decide +kernel
theorem dX5_placesOfHook_2 : decode cX5_placesOfHook 2 = .ok (.iconst 0, 1) := by decide +kernel
theorem dX5_placesOfHook_3 : decode cX5_placesOfHook 3 = .ok (.istore_n 3, 1) := by decide +kernel
theorem dX5_placesOfHook_4 : decode cX5_placesOfHook 4 = .ok (.iload_n 3, 1) := by decide +kernel
theorem dX5_placesOfHook_5 : decode cX5_placesOfHook 5 = .ok (.bipush 6, 2) := by decide +kernel
theorem dX5_placesOfHook_7 : decode cX5_placesOfHook 7 = .ok (.if_icmp .gt 49, 3) := by decide +kernel
theorem dX5_placesOfHook_10 : decode cX5_placesOfHook 10 = .ok (.iload_n 3, 1) := by decide +kernel
theorem dX5_placesOfHook_11 : decode cX5_placesOfHook 11 = .ok (.aload_n 0, 1) := by decide +kernel
theorem dX5_placesOfHook_12 : decode cX5_placesOfHook 12 = .ok (.getfield 24, 3) := by decide +kernel
theorem dX5_placesOfHook_15 : decode cX5_placesOfHook 15 = .ok (.iload_n 1, 1) := by decide +kernel
theorem dX5_placesOfHook_16 : decode cX5_placesOfHook 16 = .ok (.iaload, 1) := by decide +kernel
theorem dX5_placesOfHook_17 : decode cX5_placesOfHook 17 = .ok (.aload_n 0, 1) := by decide +kernel
theorem dX5_placesOfHook_18 : decode cX5_placesOfHook 18 = .ok (.getfield 27, 3) := by decide +kernel
theorem dX5_placesOfHook_21 : decode cX5_placesOfHook 21 = .ok (.iload_n 1, 1) := by decide +kernel
theorem dX5_placesOfHook_22 : decode cX5_placesOfHook 22 = .ok (.iaload, 1) := by decide +kernel
theorem dX5_placesOfHook_23 : decode cX5_placesOfHook 23 = .ok (.isub, 1) := by decide +kernel
theorem dX5_placesOfHook_24 : decode cX5_placesOfHook 24 = .ok (.if_icmp .lt 26, 3) := by decide +kernel
theorem dX5_placesOfHook_27 : decode cX5_placesOfHook 27 = .ok (.iload_n 3, 1) := by decide +kernel
theorem dX5_placesOfHook_28 : decode cX5_placesOfHook 28 = .ok (.aload_n 0, 1) := by decide +kernel
theorem dX5_placesOfHook_29 : decode cX5_placesOfHook 29 = .ok (.getfield 24, 3) := by decide +kernel
theorem dX5_placesOfHook_32 : decode cX5_placesOfHook 32 = .ok (.iload_n 1, 1) := by decide +kernel
theorem dX5_placesOfHook_33 : decode cX5_placesOfHook 33 = .ok (.iaload, 1) := by decide +kernel
theorem dX5_placesOfHook_34 : decode cX5_placesOfHook 34 = .ok (.aload_n 0, 1) := by decide +kernel
theorem dX5_placesOfHook_35 : decode cX5_placesOfHook 35 = .ok (.getfield 27, 3) := by decide +kernel
theorem dX5_placesOfHook_38 : decode cX5_placesOfHook 38 = .ok (.iload_n 1, 1) := by decide +kernel
theorem dX5_placesOfHook_39 : decode cX5_placesOfHook 39 = .ok (.iaload, 1) := by decide +kernel
theorem dX5_placesOfHook_40 : decode cX5_placesOfHook 40 = .ok (.iadd, 1) := by decide +kernel
theorem dX5_placesOfHook_41 : decode cX5_placesOfHook 41 = .ok (.if_icmp .gt 9, 3) := by decide +kernel
theorem dX5_placesOfHook_44 : decode cX5_placesOfHook 44 = .ok (.iload_n 2, 1) := by decide +kernel
theorem dX5_placesOfHook_45 : decode cX5_placesOfHook 45 = .ok (.iconst 1, 1) := by decide +kernel
theorem dX5_placesOfHook_46 : decode cX5_placesOfHook 46 = .ok (.iload_n 3, 1) := by decide +kernel
theorem dX5_placesOfHook_47 : decode cX5_placesOfHook 47 = .ok (.ishl, 1) := by decide +kernel
theorem dX5_placesOfHook_48 : decode cX5_placesOfHook 48 = .ok (.ior, 1) := by decide +kernel
theorem dX5_placesOfHook_49 : decode cX5_placesOfHook 49 = .ok (.istore_n 2, 1) := by decide +kernel
theorem dX5_placesOfHook_50 : decode cX5_placesOfHook 50 = .ok (.iinc 3 1, 3) := by decide +kernel
theorem dX5_placesOfHook_53 : decode cX5_placesOfHook 53 = .ok (.goto (-49), 3) := by decide +kernel
theorem dX5_placesOfHook_56 : decode cX5_placesOfHook 56 = .ok (.iload_n 2, 1) := by decide +kernel
theorem dX5_placesOfHook_57 : decode cX5_placesOfHook 57 = .ok (.ireturn, 1) := by decide +kernel
theorem dX5_fewestHooks_0 : decode cX5_fewestHooks 0 = .ok (.iconst (-1), 1) := by decide +kernel
theorem dX5_fewestHooks_1 : decode cX5_fewestHooks 1 = .ok (.istore_n 2, 1) := by decide +kernel
theorem dX5_fewestHooks_2 : decode cX5_fewestHooks 2 = .ok (.iconst 0, 1) := by decide +kernel
theorem dX5_fewestHooks_3 : decode cX5_fewestHooks 3 = .ok (.istore_n 3, 1) := by decide +kernel
theorem dX5_fewestHooks_4 : decode cX5_fewestHooks 4 = .ok (.iload_n 3, 1) := by decide +kernel
theorem dX5_fewestHooks_5 : decode cX5_fewestHooks 5 = .ok (.iconst 1, 1) := by decide +kernel
theorem dX5_fewestHooks_6 : decode cX5_fewestHooks 6 = .ok (.aload_n 0, 1) := by decide +kernel
theorem dX5_fewestHooks_7 : decode cX5_fewestHooks 7 = .ok (.getfield 44, 3) := by decide +kernel
theorem dX5_fewestHooks_10 : decode cX5_fewestHooks 10 = .ok (.ishl, 1) := by decide +kernel
theorem dX5_fewestHooks_11 : decode cX5_fewestHooks 11 = .ok (.if_icmp .ge 51, 3) := by decide +kernel
theorem dX5_fewestHooks_14 : decode cX5_fewestHooks 14 = .ok (.iload_n 2, 1) := by decide +kernel
theorem dX5_fewestHooks_15 : decode cX5_fewestHooks 15 = .ok (.iconst (-1), 1) := by decide +kernel
theorem dX5_fewestHooks_16 : decode cX5_fewestHooks 16 = .ok (.if_icmp .eq 14, 3) := by decide +kernel
theorem dX5_fewestHooks_19 : decode cX5_fewestHooks 19 = .ok (.iload_n 3, 1) := by decide +kernel
theorem dX5_fewestHooks_20 : decode cX5_fewestHooks 20 = .ok (.invokestatic 53, 3) := by decide +kernel
theorem dX5_fewestHooks_23 : decode cX5_fewestHooks 23 = .ok (.iload_n 2, 1) := by decide +kernel
theorem dX5_fewestHooks_24 : decode cX5_fewestHooks 24 = .ok (.invokestatic 53, 3) := by decide +kernel
theorem dX5_fewestHooks_27 : decode cX5_fewestHooks 27 = .ok (.if_icmp .ge 7, 3) := by decide +kernel
theorem dX5_fewestHooks_30 : decode cX5_fewestHooks 30 = .ok (.iconst 1, 1) := by decide +kernel
theorem dX5_fewestHooks_31 : decode cX5_fewestHooks 31 = .ok (.goto 4, 3) := by decide +kernel
theorem dX5_fewestHooks_34 : decode cX5_fewestHooks 34 = .ok (.iconst 0, 1) := by decide +kernel
theorem dX5_fewestHooks_35 : decode cX5_fewestHooks 35 = .ok (.istore 4, 2) := by decide +kernel
theorem dX5_fewestHooks_37 : decode cX5_fewestHooks 37 = .ok (.iload 4, 2) := by decide +kernel
theorem dX5_fewestHooks_39 : decode cX5_fewestHooks 39 = .ok (.ifCond .eq 17, 3) := by decide +kernel
theorem dX5_fewestHooks_42 : decode cX5_fewestHooks 42 = .ok (.iload_n 1, 1) := by decide +kernel
theorem dX5_fewestHooks_43 : decode cX5_fewestHooks 43 = .ok (.aload_n 0, 1) := by decide +kernel
theorem dX5_fewestHooks_44 : decode cX5_fewestHooks 44 = .ok (.iload_n 3, 1) := by decide +kernel
theorem dX5_fewestHooks_45 : decode cX5_fewestHooks 45 = .ok (.invokevirtual 59, 3) := by decide +kernel
theorem dX5_fewestHooks_48 : decode cX5_fewestHooks 48 = .ok (.iconst (-1), 1) := by decide +kernel
theorem dX5_fewestHooks_49 : decode cX5_fewestHooks 49 = .ok (.ixor, 1) := by decide +kernel
theorem dX5_fewestHooks_50 : decode cX5_fewestHooks 50 = .ok (.iand, 1) := by decide +kernel
theorem dX5_fewestHooks_51 : decode cX5_fewestHooks 51 = .ok (.ifCond .ne 5, 3) := by decide +kernel
theorem dX5_fewestHooks_54 : decode cX5_fewestHooks 54 = .ok (.iload_n 3, 1) := by decide +kernel
theorem dX5_fewestHooks_55 : decode cX5_fewestHooks 55 = .ok (.istore_n 2, 1) := by decide +kernel
theorem dX5_fewestHooks_56 : decode cX5_fewestHooks 56 = .ok (.iinc 3 1, 3) := by decide +kernel
theorem dX5_fewestHooks_59 : decode cX5_fewestHooks 59 = .ok (.goto (-55), 3) := by decide +kernel
theorem dX5_fewestHooks_62 : decode cX5_fewestHooks 62 = .ok (.iload_n 2, 1) := by decide +kernel
theorem dX5_fewestHooks_63 : decode cX5_fewestHooks 63 = .ok (.ireturn, 1) := by decide +kernel
theorem dX5_placesOfHooks_0 : decode cX5_placesOfHooks 0 = .ok (.iconst 0, 1) := by decide +kernel
theorem dX5_placesOfHooks_1 : decode cX5_placesOfHooks 1 = .ok (.istore_n 2, 1) := by decide +kernel
theorem dX5_placesOfHooks_2 : decode cX5_placesOfHooks 2 = .ok (.iconst 0, 1) := by decide +kernel
theorem dX5_placesOfHooks_3 : decode cX5_placesOfHooks 3 = .ok (.istore_n 3, 1) := by decide +kernel
theorem dX5_placesOfHooks_4 : decode cX5_placesOfHooks 4 = .ok (.iload_n 3, 1) := by decide +kernel
theorem dX5_placesOfHooks_5 : decode cX5_placesOfHooks 5 = .ok (.aload_n 0, 1) := by decide +kernel
theorem dX5_placesOfHooks_6 : decode cX5_placesOfHooks 6 = .ok (.getfield 44, 3) := by decide +kernel
theorem dX5_placesOfHooks_9 : decode cX5_placesOfHooks 9 = .ok (.if_icmp .ge 25, 3) := by decide +kernel
theorem dX5_placesOfHooks_12 : decode cX5_placesOfHooks 12 = .ok (.iload_n 1, 1) := by decide +kernel
theorem dX5_placesOfHooks_13 : decode cX5_placesOfHooks 13 = .ok (.iload_n 3, 1) := by decide +kernel
theorem dX5_placesOfHooks_14 : decode cX5_placesOfHooks 14 = .ok (.invokestatic 62, 3) := by decide +kernel
theorem dX5_placesOfHooks_17 : decode cX5_placesOfHooks 17 = .ok (.ifCond .eq 11, 3) := by decide +kernel
theorem dX5_placesOfHooks_20 : decode cX5_placesOfHooks 20 = .ok (.iload_n 2, 1) := by decide +kernel
theorem dX5_placesOfHooks_21 : decode cX5_placesOfHooks 21 = .ok (.aload_n 0, 1) := by decide +kernel
theorem dX5_placesOfHooks_22 : decode cX5_placesOfHooks 22 = .ok (.iload_n 3, 1) := by decide +kernel
theorem dX5_placesOfHooks_23 : decode cX5_placesOfHooks 23 = .ok (.invokevirtual 66, 3) := by decide +kernel
theorem dX5_placesOfHooks_26 : decode cX5_placesOfHooks 26 = .ok (.ior, 1) := by decide +kernel
theorem dX5_placesOfHooks_27 : decode cX5_placesOfHooks 27 = .ok (.istore_n 2, 1) := by decide +kernel
theorem dX5_placesOfHooks_28 : decode cX5_placesOfHooks 28 = .ok (.iinc 3 1, 3) := by decide +kernel
theorem dX5_placesOfHooks_31 : decode cX5_placesOfHooks 31 = .ok (.goto (-27), 3) := by decide +kernel
theorem dX5_placesOfHooks_34 : decode cX5_placesOfHooks 34 = .ok (.iload_n 2, 1) := by decide +kernel
theorem dX5_placesOfHooks_35 : decode cX5_placesOfHooks 35 = .ok (.ireturn, 1) := by decide +kernel
theorem dX6_init_0 : decode cX6_init 0 = .ok (.aload_n 0, 1) := by decide +kernel
theorem dX6_init_1 : decode cX6_init 1 = .ok (.invokespecial 3, 3) := by decide +kernel
theorem dX6_init_4 : decode cX6_init 4 = .ok (.aload_n 0, 1) := by decide +kernel
theorem dX6_init_5 : decode cX6_init 5 = .ok (.sipush 240, 3) := by decide +kernel
theorem dX6_init_8 : decode cX6_init 8 = .ok (.newarray .int, 2) := by decide +kernel
theorem dX6_init_10 : decode cX6_init 10 = .ok (.putfield 9, 3) := by decide +kernel
theorem dX6_init_13 : decode cX6_init 13 = .ok (.aload_n 0, 1) := by decide +kernel
theorem dX6_init_14 : decode cX6_init 14 = .ok (.iconst 0, 1) := by decide +kernel
theorem dX6_init_15 : decode cX6_init 15 = .ok (.putfield 15, 3) := by decide +kernel
theorem dX6_init_18 : decode cX6_init 18 = .ok (.aload_n 0, 1) := by decide +kernel
theorem dX6_init_19 : decode cX6_init 19 = .ok (.iconst 0, 1) := by decide +kernel
theorem dX6_init_20 : decode cX6_init 20 = .ok (.putfield 19, 3) := by decide +kernel
theorem dX6_init_23 : decode cX6_init 23 = .ok (.aload_n 0, 1) := by decide +kernel
theorem dX6_init_24 : decode cX6_init 24 = .ok (.iconst (-1), 1) := by decide +kernel
theorem dX6_init_25 : decode cX6_init 25 = .ok (.putfield 22, 3) := by decide +kernel
theorem dX6_init_28 : decode cX6_init 28 = .ok (.aload_n 0, 1) := by decide +kernel
theorem dX6_init_29 : decode cX6_init 29 = .ok (.iconst 0, 1) := by decide +kernel
theorem dX6_init_30 : decode cX6_init 30 = .ok (.putfield 25, 3) := by decide +kernel
theorem dX6_init_33 : decode cX6_init 33 = .ok (.return_, 1) := by decide +kernel
theorem dX6_readInto_0 : decode cX6_readInto 0 = .ok (.aload_n 1, 1) := by decide +kernel
theorem dX6_readInto_1 : decode cX6_readInto 1 = .ok (.invokevirtual 28, 3) := by decide +kernel
theorem dX6_readInto_4 : decode cX6_readInto 4 = .ok (.aload_n 0, 1) := by decide +kernel
theorem dX6_readInto_5 : decode cX6_readInto 5 = .ok (.iconst 0, 1) := by decide +kernel
theorem dX6_readInto_6 : decode cX6_readInto 6 = .ok (.putfield 19, 3) := by decide +kernel
theorem dX6_readInto_9 : decode cX6_readInto 9 = .ok (.aload_n 0, 1) := by decide +kernel
theorem dX6_readInto_10 : decode cX6_readInto 10 = .ok (.iconst (-1), 1) := by decide +kernel
theorem dX6_readInto_11 : decode cX6_readInto 11 = .ok (.putfield 22, 3) := by decide +kernel
theorem dX6_readInto_14 : decode cX6_readInto 14 = .ok (.aload_n 0, 1) := by decide +kernel
theorem dX6_readInto_15 : decode cX6_readInto 15 = .ok (.iconst 0, 1) := by decide +kernel
theorem dX6_readInto_16 : decode cX6_readInto 16 = .ok (.putfield 25, 3) := by decide +kernel
theorem dX6_readInto_19 : decode cX6_readInto 19 = .ok (.aload_n 0, 1) := by decide +kernel
theorem dX6_readInto_20 : decode cX6_readInto 20 = .ok (.invokevirtual 33, 3) := by decide +kernel
theorem dX6_readInto_23 : decode cX6_readInto 23 = .ok (.iconst 0, 1) := by decide +kernel
theorem dX6_readInto_24 : decode cX6_readInto 24 = .ok (.istore_n 2, 1) := by decide +kernel
theorem dX6_readInto_25 : decode cX6_readInto 25 = .ok (.iload_n 2, 1) := by decide +kernel
theorem dX6_readInto_26 : decode cX6_readInto 26 = .ok (.sipush 240, 3) := by decide +kernel
theorem dX6_readInto_29 : decode cX6_readInto 29 = .ok (.if_icmp .ge 36, 3) := by decide +kernel
theorem dX6_readInto_32 : decode cX6_readInto 32 = .ok (.aload_n 0, 1) := by decide +kernel
theorem dX6_readInto_33 : decode cX6_readInto 33 = .ok (.getfield 25, 3) := by decide +kernel
theorem dX6_readInto_36 : decode cX6_readInto 36 = .ok (.aload_n 0, 1) := by decide +kernel
theorem dX6_readInto_37 : decode cX6_readInto 37 = .ok (.getfield 15, 3) := by decide +kernel
theorem dX6_readInto_40 : decode cX6_readInto 40 = .ok (.if_icmp .ge 25, 3) := by decide +kernel
theorem dX6_readInto_43 : decode cX6_readInto 43 = .ok (.aload_n 0, 1) := by decide +kernel
theorem dX6_readInto_44 : decode cX6_readInto 44 = .ok (.getfield 19, 3) := by decide +kernel
theorem dX6_readInto_47 : decode cX6_readInto 47 = .ok (.ifCond .ne 18, 3) := by decide +kernel
theorem dX6_readInto_50 : decode cX6_readInto 50 = .ok (.aload_n 0, 1) := by decide +kernel
theorem dX6_readInto_51 : decode cX6_readInto 51 = .ok (.aload_n 1, 1) := by decide +kernel
theorem dX6_readInto_52 : decode cX6_readInto 52 = .ok (.invokevirtual 36, 3) := by decide +kernel
theorem dX6_readInto_55 : decode cX6_readInto 55 = .ok (.aload_n 0, 1) := by decide +kernel
theorem dX6_readInto_56 : decode cX6_readInto 56 = .ok (.invokevirtual 33, 3) := by decide +kernel
theorem dX6_readInto_59 : decode cX6_readInto 59 = .ok (.iinc 2 1, 3) := by decide +kernel
theorem dX6_readInto_62 : decode cX6_readInto 62 = .ok (.goto (-37), 3) := by decide +kernel
theorem dX6_readInto_65 : decode cX6_readInto 65 = .ok (.return_, 1) := by decide +kernel
theorem dX6_readClause_0 : decode cX6_readClause 0 = .ok (.aload_n 0, 1) := by decide +kernel
theorem dX6_readClause_1 : decode cX6_readClause 1 = .ok (.invokevirtual 40, 3) := by decide +kernel
theorem dX6_readClause_4 : decode cX6_readClause 4 = .ok (.istore_n 2, 1) := by decide +kernel
theorem dX6_readClause_5 : decode cX6_readClause 5 = .ok (.iload_n 2, 1) := by decide +kernel
theorem dX6_readClause_6 : decode cX6_readClause 6 = .ok (.bipush 121, 2) := by decide +kernel
theorem dX6_readClause_8 : decode cX6_readClause 8 = .ok (.if_icmp .eq 40, 3) := by decide +kernel
theorem dX6_readClause_11 : decode cX6_readClause 11 = .ok (.iload_n 2, 1) := by decide +kernel
theorem dX6_readClause_12 : decode cX6_readClause 12 = .ok (.bipush 102, 2) := by decide +kernel
theorem dX6_readClause_14 : decode cX6_readClause 14 = .ok (.if_icmp .eq 15, 3) := by decide +kernel
theorem dX6_readClause_17 : decode cX6_readClause 17 = .ok (.iload_n 2, 1) := by decide +kernel
theorem dX6_readClause_18 : decode cX6_readClause 18 = .ok (.bipush 119, 2) := by decide +kernel
theorem dX6_readClause_20 : decode cX6_readClause 20 = .ok (.if_icmp .eq 9, 3) := by decide +kernel
theorem dX6_readClause_23 : decode cX6_readClause 23 = .ok (.iload_n 2, 1) := by decide +kernel
theorem dX6_readClause_24 : decode cX6_readClause 24 = .ok (.bipush 104, 2) := by decide +kernel
theorem dX6_readClause_26 : decode cX6_readClause 26 = .ok (.if_icmp .ne 10, 3) := by decide +kernel
theorem dX6_readClause_29 : decode cX6_readClause 29 = .ok (.aload_n 1, 1) := by decide +kernel
theorem dX6_readClause_30 : decode cX6_readClause 30 = .ok (.getfield 44, 3) := by decide +kernel
theorem dX6_readClause_33 : decode cX6_readClause 33 = .ok (.ifCond .ne 15, 3) := by decide +kernel
theorem dX6_readClause_36 : decode cX6_readClause 36 = .ok (.aload_n 0, 1) := by decide +kernel
theorem dX6_readClause_37 : decode cX6_readClause 37 = .ok (.iconst 1, 1) := by decide +kernel
theorem dX6_readClause_38 : decode cX6_readClause 38 = .ok (.aload_n 0, 1) := by decide +kernel
theorem dX6_readClause_39 : decode cX6_readClause 39 = .ok (.getfield 25, 3) := by decide +kernel
theorem dX6_readClause_42 : decode cX6_readClause 42 = .ok (.invokevirtual 48, 3) := by decide +kernel
theorem dX6_readClause_45 : decode cX6_readClause 45 = .ok (.goto 45, 3) := by decide +kernel
theorem dX6_readClause_48 : decode cX6_readClause 48 = .ok (.aload_n 1, 1) := by decide +kernel
theorem dX6_readClause_49 : decode cX6_readClause 49 = .ok (.iload_n 2, 1) := by decide +kernel
theorem dX6_readClause_50 : decode cX6_readClause 50 = .ok (.invokestatic 52, 3) := by decide +kernel
theorem dX6_readClause_53 : decode cX6_readClause 53 = .ok (.ifCond .eq 15, 3) := by decide +kernel
theorem dX6_readClause_56 : decode cX6_readClause 56 = .ok (.aload_n 0, 1) := by decide +kernel
theorem dX6_readClause_57 : decode cX6_readClause 57 = .ok (.iconst 3, 1) := by decide +kernel
theorem dX6_readClause_58 : decode cX6_readClause 58 = .ok (.aload_n 0, 1) := by decide +kernel
theorem dX6_readClause_59 : decode cX6_readClause 59 = .ok (.getfield 25, 3) := by decide +kernel
theorem dX6_readClause_62 : decode cX6_readClause 62 = .ok (.invokevirtual 48, 3) := by decide +kernel
theorem dX6_readClause_65 : decode cX6_readClause 65 = .ok (.goto 25, 3) := by decide +kernel
theorem dX6_readClause_68 : decode cX6_readClause 68 = .ok (.aload_n 0, 1) := by decide +kernel
theorem dX6_readClause_69 : decode cX6_readClause 69 = .ok (.dup, 1) := by decide +kernel
theorem dX6_readClause_70 : decode cX6_readClause 70 = .ok (.getfield 25, 3) := by decide +kernel
theorem dX6_readClause_73 : decode cX6_readClause 73 = .ok (.iconst 1, 1) := by decide +kernel
theorem dX6_readClause_74 : decode cX6_readClause 74 = .ok (.iadd, 1) := by decide +kernel
theorem dX6_readClause_75 : decode cX6_readClause 75 = .ok (.putfield 25, 3) := by decide +kernel
theorem dX6_readClause_78 : decode cX6_readClause 78 = .ok (.aload_n 0, 1) := by decide +kernel
theorem dX6_readClause_79 : decode cX6_readClause 79 = .ok (.aload_n 1, 1) := by decide +kernel
theorem dX6_readClause_80 : decode cX6_readClause 80 = .ok (.iload_n 2, 1) := by decide +kernel
theorem dX6_readClause_81 : decode cX6_readClause 81 = .ok (.invokevirtual 56, 3) := by decide +kernel
theorem dX6_readClause_84 : decode cX6_readClause 84 = .ok (.aload_n 0, 1) := by decide +kernel
theorem dX6_readClause_85 : decode cX6_readClause 85 = .ok (.bipush 59, 2) := by decide +kernel
theorem dX6_readClause_87 : decode cX6_readClause 87 = .ok (.invokevirtual 60, 3) := by decide +kernel
theorem dX6_readClause_90 : decode cX6_readClause 90 = .ok (.return_, 1) := by decide +kernel
theorem dX6_isFullFor_0 : decode cX6_isFullFor 0 = .ok (.iload_n 1, 1) := by decide +kernel
theorem dX6_isFullFor_1 : decode cX6_isFullFor 1 = .ok (.lookupswitch 70 #[(102, 40), (119, 55), (121, 35)], 35) := by decide +kernel
theorem dX6_isFullFor_36 : decode cX6_isFullFor 36 = .ok (.aload_n 0, 1) := by decide +kernel
theorem dX6_isFullFor_37 : decode cX6_isFullFor 37 = .ok (.getfield 44, 3) := by decide +kernel
theorem dX6_isFullFor_40 : decode cX6_isFullFor 40 = .ok (.ireturn, 1) := by decide +kernel
theorem dX6_isFullFor_41 : decode cX6_isFullFor 41 = .ok (.aload_n 0, 1) := by decide +kernel
theorem dX6_isFullFor_42 : decode cX6_isFullFor 42 = .ok (.getfield 64, 3) := by decide +kernel
theorem dX6_isFullFor_45 : decode cX6_isFullFor 45 = .ok (.bipush 7, 2) := by decide +kernel
theorem dX6_isFullFor_47 : decode cX6_isFullFor 47 = .ok (.if_icmp .lt 7, 3) := by decide +kernel
theorem dX6_isFullFor_50 : decode cX6_isFullFor 50 = .ok (.iconst 1, 1) := by decide +kernel
theorem dX6_isFullFor_51 : decode cX6_isFullFor 51 = .ok (.goto 4, 3) := by decide +kernel
theorem dX6_isFullFor_54 : decode cX6_isFullFor 54 = .ok (.iconst 0, 1) := by decide +kernel
theorem dX6_isFullFor_55 : decode cX6_isFullFor 55 = .ok (.ireturn, 1) := by decide +kernel
theorem dX6_isFullFor_56 : decode cX6_isFullFor 56 = .ok (.aload_n 0, 1) := by decide +kernel
theorem dX6_isFullFor_57 : decode cX6_isFullFor 57 = .ok (.getfield 67, 3) := by decide +kernel
theorem dX6_isFullFor_60 : decode cX6_isFullFor 60 = .ok (.bipush 6, 2) := by decide +kernel
theorem dX6_isFullFor_62 : decode cX6_isFullFor 62 = .ok (.if_icmp .lt 7, 3) := by decide +kernel
theorem dX6_isFullFor_65 : decode cX6_isFullFor 65 = .ok (.iconst 1, 1) := by decide +kernel
theorem dX6_isFullFor_66 : decode cX6_isFullFor 66 = .ok (.goto 4, 3) := by decide +kernel
theorem dX6_isFullFor_69 : decode cX6_isFullFor 69 = .ok (.iconst 0, 1) := by decide +kernel
theorem dX6_isFullFor_70 : decode cX6_isFullFor 70 = .ok (.ireturn, 1) := by decide +kernel
theorem dX6_isFullFor_71 : decode cX6_isFullFor 71 = .ok (.aload_n 0, 1) := by decide +kernel
theorem dX6_isFullFor_72 : decode cX6_isFullFor 72 = .ok (.getfield 70, 3) := by decide +kernel
theorem dX6_isFullFor_75 : decode cX6_isFullFor 75 = .ok (.iconst 5, 1) := by decide +kernel
theorem dX6_isFullFor_76 : decode cX6_isFullFor 76 = .ok (.if_icmp .lt 7, 3) := by decide +kernel
theorem dX6_isFullFor_79 : decode cX6_isFullFor 79 = .ok (.iconst 1, 1) := by decide +kernel
theorem dX6_isFullFor_80 : decode cX6_isFullFor 80 = .ok (.goto 4, 3) := by decide +kernel
theorem dX6_isFullFor_83 : decode cX6_isFullFor 83 = .ok (.iconst 0, 1) := by decide +kernel
theorem dX6_isFullFor_84 : decode cX6_isFullFor 84 = .ok (.ireturn, 1) := by decide +kernel
theorem dX6_readRest_0 : decode cX6_readRest 0 = .ok (.iload_n 2, 1) := by decide +kernel
theorem dX6_readRest_1 : decode cX6_readRest 1 = .ok (.lookupswitch 116 #[(102, 54), (119, 98), (121, 35)], 35) := by decide +kernel
theorem dX6_readRest_36 : decode cX6_readRest 36 = .ok (.aload_n 1, 1) := by decide +kernel
theorem dX6_readRest_37 : decode cX6_readRest 37 = .ok (.aload_n 0, 1) := by decide +kernel
theorem dX6_readRest_38 : decode cX6_readRest 38 = .ok (.iconst 0, 1) := by decide +kernel
theorem dX6_readRest_39 : decode cX6_readRest 39 = .ok (.bipush 9, 2) := by decide +kernel
theorem dX6_readRest_41 : decode cX6_readRest 41 = .ok (.invokevirtual 73, 3) := by decide +kernel
theorem dX6_readRest_44 : decode cX6_readRest 44 = .ok (.putfield 77, 3) := by decide +kernel
theorem dX6_readRest_47 : decode cX6_readRest 47 = .ok (.aload_n 1, 1) := by decide +kernel
theorem dX6_readRest_48 : decode cX6_readRest 48 = .ok (.iconst 1, 1) := by decide +kernel
theorem dX6_readRest_49 : decode cX6_readRest 49 = .ok (.putfield 44, 3) := by decide +kernel
theorem dX6_readRest_52 : decode cX6_readRest 52 = .ok (.goto 107, 3) := by decide +kernel
theorem dX6_readRest_55 : decode cX6_readRest 55 = .ok (.aload_n 1, 1) := by decide +kernel
theorem dX6_readRest_56 : decode cX6_readRest 56 = .ok (.getfield 80, 3) := by decide +kernel
theorem dX6_readRest_59 : decode cX6_readRest 59 = .ok (.aload_n 1, 1) := by decide +kernel
theorem dX6_readRest_60 : decode cX6_readRest 60 = .ok (.getfield 64, 3) := by decide +kernel
theorem dX6_readRest_63 : decode cX6_readRest 63 = .ok (.aload_n 0, 1) := by decide +kernel
theorem dX6_readRest_64 : decode cX6_readRest 64 = .ok (.iconst 0, 1) := by decide +kernel
theorem dX6_readRest_65 : decode cX6_readRest 65 = .ok (.iconst 5, 1) := by decide +kernel
theorem dX6_readRest_66 : decode cX6_readRest 66 = .ok (.invokevirtual 73, 3) := by decide +kernel
theorem dX6_readRest_69 : decode cX6_readRest 69 = .ok (.iastore, 1) := by decide +kernel
theorem dX6_readRest_70 : decode cX6_readRest 70 = .ok (.aload_n 1, 1) := by decide +kernel
theorem dX6_readRest_71 : decode cX6_readRest 71 = .ok (.getfield 83, 3) := by decide +kernel
theorem dX6_readRest_74 : decode cX6_readRest 74 = .ok (.aload_n 1, 1) := by decide +kernel
theorem dX6_readRest_75 : decode cX6_readRest 75 = .ok (.getfield 64, 3) := by decide +kernel
theorem dX6_readRest_78 : decode cX6_readRest 78 = .ok (.aload_n 0, 1) := by decide +kernel
theorem dX6_readRest_79 : decode cX6_readRest 79 = .ok (.iconst 1, 1) := by decide +kernel
theorem dX6_readRest_80 : decode cX6_readRest 80 = .ok (.bipush 9, 2) := by decide +kernel
theorem dX6_readRest_82 : decode cX6_readRest 82 = .ok (.invokevirtual 73, 3) := by decide +kernel
theorem dX6_readRest_85 : decode cX6_readRest 85 = .ok (.iastore, 1) := by decide +kernel
theorem dX6_readRest_86 : decode cX6_readRest 86 = .ok (.aload_n 1, 1) := by decide +kernel
theorem dX6_readRest_87 : decode cX6_readRest 87 = .ok (.dup, 1) := by decide +kernel
theorem dX6_readRest_88 : decode cX6_readRest 88 = .ok (.getfield 64, 3) := by decide +kernel
theorem dX6_readRest_91 : decode cX6_readRest 91 = .ok (.iconst 1, 1) := by decide +kernel
theorem dX6_readRest_92 : decode cX6_readRest 92 = .ok (.iadd, 1) := by decide +kernel
theorem dX6_readRest_93 : decode cX6_readRest 93 = .ok (.putfield 64, 3) := by decide +kernel
theorem dX6_readRest_96 : decode cX6_readRest 96 = .ok (.goto 63, 3) := by decide +kernel
theorem dX6_readRest_99 : decode cX6_readRest 99 = .ok (.aload_n 0, 1) := by decide +kernel
theorem dX6_readRest_100 : decode cX6_readRest 100 = .ok (.aload_n 1, 1) := by decide +kernel
theorem dX6_readRest_101 : decode cX6_readRest 101 = .ok (.invokevirtual 86, 3) := by decide +kernel
theorem dX6_readRest_104 : decode cX6_readRest 104 = .ok (.aload_n 1, 1) := by decide +kernel
theorem dX6_readRest_105 : decode cX6_readRest 105 = .ok (.dup, 1) := by decide +kernel
theorem dX6_readRest_106 : decode cX6_readRest 106 = .ok (.getfield 67, 3) := by decide +kernel
theorem dX6_readRest_109 : decode cX6_readRest 109 = .ok (.iconst 1, 1) := by decide +kernel
theorem dX6_readRest_110 : decode cX6_readRest 110 = .ok (.iadd, 1) := by decide +kernel
theorem dX6_readRest_111 : decode cX6_readRest 111 = .ok (.putfield 67, 3) := by decide +kernel
theorem dX6_readRest_114 : decode cX6_readRest 114 = .ok (.goto 45, 3) := by decide +kernel
theorem dX6_readRest_117 : decode cX6_readRest 117 = .ok (.aload_n 1, 1) := by decide +kernel
theorem dX6_readRest_118 : decode cX6_readRest 118 = .ok (.getfield 89, 3) := by decide +kernel
theorem dX6_readRest_121 : decode cX6_readRest 121 = .ok (.aload_n 1, 1) := by decide +kernel
theorem dX6_readRest_122 : decode cX6_readRest 122 = .ok (.getfield 70, 3) := by decide +kernel
theorem dX6_readRest_125 : decode cX6_readRest 125 = .ok (.aload_n 0, 1) := by decide +kernel
theorem dX6_readRest_126 : decode cX6_readRest 126 = .ok (.iconst 0, 1) := by decide +kernel
theorem dX6_readRest_127 : decode cX6_readRest 127 = .ok (.bipush 6, 2) := by decide +kernel
theorem dX6_readRest_129 : decode cX6_readRest 129 = .ok (.invokevirtual 73, 3) := by decide +kernel
theorem dX6_readRest_132 : decode cX6_readRest 132 = .ok (.iastore, 1) := by decide +kernel
theorem dX6_readRest_133 : decode cX6_readRest 133 = .ok (.aload_n 1, 1) := by decide +kernel
theorem dX6_readRest_134 : decode cX6_readRest 134 = .ok (.getfield 92, 3) := by decide +kernel
theorem dX6_readRest_137 : decode cX6_readRest 137 = .ok (.aload_n 1, 1) := by decide +kernel
theorem dX6_readRest_138 : decode cX6_readRest 138 = .ok (.getfield 70, 3) := by decide +kernel
theorem dX6_readRest_141 : decode cX6_readRest 141 = .ok (.aload_n 0, 1) := by decide +kernel
theorem dX6_readRest_142 : decode cX6_readRest 142 = .ok (.iconst 0, 1) := by decide +kernel
theorem dX6_readRest_143 : decode cX6_readRest 143 = .ok (.bipush 6, 2) := by decide +kernel
theorem dX6_readRest_145 : decode cX6_readRest 145 = .ok (.invokevirtual 73, 3) := by decide +kernel
theorem dX6_readRest_148 : decode cX6_readRest 148 = .ok (.iastore, 1) := by decide +kernel
theorem dX6_readRest_149 : decode cX6_readRest 149 = .ok (.aload_n 1, 1) := by decide +kernel
theorem dX6_readRest_150 : decode cX6_readRest 150 = .ok (.dup, 1) := by decide +kernel
theorem dX6_readRest_151 : decode cX6_readRest 151 = .ok (.getfield 70, 3) := by decide +kernel
theorem dX6_readRest_154 : decode cX6_readRest 154 = .ok (.iconst 1, 1) := by decide +kernel
theorem dX6_readRest_155 : decode cX6_readRest 155 = .ok (.iadd, 1) := by decide +kernel
theorem dX6_readRest_156 : decode cX6_readRest 156 = .ok (.putfield 70, 3) := by decide +kernel
theorem dX6_readRest_159 : decode cX6_readRest 159 = .ok (.return_, 1) := by decide +kernel
theorem dX6_readKinds_0 : decode cX6_readKinds 0 = .ok (.aload_n 1, 1) := by decide +kernel
theorem dX6_readKinds_1 : decode cX6_readKinds 1 = .ok (.getfield 67, 3) := by decide +kernel
theorem dX6_readKinds_4 : decode cX6_readKinds 4 = .ok (.iconst 4, 1) := by decide +kernel
theorem dX6_readKinds_5 : decode cX6_readKinds 5 = .ok (.imul, 1) := by decide +kernel
theorem dX6_readKinds_6 : decode cX6_readKinds 6 = .ok (.istore_n 2, 1) := by decide +kernel
theorem dX6_readKinds_7 : decode cX6_readKinds 7 = .ok (.aload_n 1, 1) := by decide +kernel
theorem dX6_readKinds_8 : decode cX6_readKinds 8 = .ok (.getfield 95, 3) := by decide +kernel
theorem dX6_readKinds_11 : decode cX6_readKinds 11 = .ok (.iload_n 2, 1) := by decide +kernel
theorem dX6_readKinds_12 : decode cX6_readKinds 12 = .ok (.aload_n 0, 1) := by decide +kernel
theorem dX6_readKinds_13 : decode cX6_readKinds 13 = .ok (.iconst 0, 1) := by decide +kernel
theorem dX6_readKinds_14 : decode cX6_readKinds 14 = .ok (.iconst 5, 1) := by decide +kernel
theorem dX6_readKinds_15 : decode cX6_readKinds 15 = .ok (.invokevirtual 73, 3) := by decide +kernel
theorem dX6_readKinds_18 : decode cX6_readKinds 18 = .ok (.iastore, 1) := by decide +kernel
theorem dX6_readKinds_19 : decode cX6_readKinds 19 = .ok (.iconst 1, 1) := by decide +kernel
theorem dX6_readKinds_20 : decode cX6_readKinds 20 = .ok (.istore_n 3, 1) := by decide +kernel
theorem dX6_readKinds_21 : decode cX6_readKinds 21 = .ok (.aload_n 0, 1) := by decide +kernel
theorem dX6_readKinds_22 : decode cX6_readKinds 22 = .ok (.invokevirtual 33, 3) := by decide +kernel
theorem dX6_readKinds_25 : decode cX6_readKinds 25 = .ok (.iload_n 3, 1) := by decide +kernel
theorem dX6_readKinds_26 : decode cX6_readKinds 26 = .ok (.iconst 4, 1) := by decide +kernel
theorem dX6_readKinds_27 : decode cX6_readKinds 27 = .ok (.if_icmp .ge 53, 3) := by decide +kernel
theorem dX6_readKinds_30 : decode cX6_readKinds 30 = .ok (.aload_n 0, 1) := by decide +kernel
theorem dX6_readKinds_31 : decode cX6_readKinds 31 = .ok (.getfield 19, 3) := by decide +kernel
theorem dX6_readKinds_34 : decode cX6_readKinds 34 = .ok (.ifCond .ne 46, 3) := by decide +kernel
theorem dX6_readKinds_37 : decode cX6_readKinds 37 = .ok (.aload_n 0, 1) := by decide +kernel
theorem dX6_readKinds_38 : decode cX6_readKinds 38 = .ok (.invokevirtual 40, 3) := by decide +kernel
theorem dX6_readKinds_41 : decode cX6_readKinds 41 = .ok (.bipush 44, 2) := by decide +kernel
theorem dX6_readKinds_43 : decode cX6_readKinds 43 = .ok (.if_icmp .ne 37, 3) := by decide +kernel
theorem dX6_readKinds_46 : decode cX6_readKinds 46 = .ok (.aload_n 0, 1) := by decide +kernel
theorem dX6_readKinds_47 : decode cX6_readKinds 47 = .ok (.dup, 1) := by decide +kernel
theorem dX6_readKinds_48 : decode cX6_readKinds 48 = .ok (.getfield 25, 3) := by decide +kernel
theorem dX6_readKinds_51 : decode cX6_readKinds 51 = .ok (.iconst 1, 1) := by decide +kernel
theorem dX6_readKinds_52 : decode cX6_readKinds 52 = .ok (.iadd, 1) := by decide +kernel
theorem dX6_readKinds_53 : decode cX6_readKinds 53 = .ok (.putfield 25, 3) := by decide +kernel
theorem dX6_readKinds_56 : decode cX6_readKinds 56 = .ok (.aload_n 1, 1) := by decide +kernel
theorem dX6_readKinds_57 : decode cX6_readKinds 57 = .ok (.getfield 95, 3) := by decide +kernel
theorem dX6_readKinds_60 : decode cX6_readKinds 60 = .ok (.iload_n 2, 1) := by decide +kernel
theorem dX6_readKinds_61 : decode cX6_readKinds 61 = .ok (.iload_n 3, 1) := by decide +kernel
theorem dX6_readKinds_62 : decode cX6_readKinds 62 = .ok (.iadd, 1) := by decide +kernel
theorem dX6_readKinds_63 : decode cX6_readKinds 63 = .ok (.aload_n 0, 1) := by decide +kernel
theorem dX6_readKinds_64 : decode cX6_readKinds 64 = .ok (.iconst 0, 1) := by decide +kernel
theorem dX6_readKinds_65 : decode cX6_readKinds 65 = .ok (.iconst 5, 1) := by decide +kernel
theorem dX6_readKinds_66 : decode cX6_readKinds 66 = .ok (.invokevirtual 73, 3) := by decide +kernel
theorem dX6_readKinds_69 : decode cX6_readKinds 69 = .ok (.iastore, 1) := by decide +kernel
theorem dX6_readKinds_70 : decode cX6_readKinds 70 = .ok (.iinc 3 1, 3) := by decide +kernel
theorem dX6_readKinds_73 : decode cX6_readKinds 73 = .ok (.aload_n 0, 1) := by decide +kernel
theorem dX6_readKinds_74 : decode cX6_readKinds 74 = .ok (.invokevirtual 33, 3) := by decide +kernel
theorem dX6_readKinds_77 : decode cX6_readKinds 77 = .ok (.goto (-52), 3) := by decide +kernel
theorem dX6_readKinds_80 : decode cX6_readKinds 80 = .ok (.aload_n 1, 1) := by decide +kernel
theorem dX6_readKinds_81 : decode cX6_readKinds 81 = .ok (.getfield 98, 3) := by decide +kernel
theorem dX6_readKinds_84 : decode cX6_readKinds 84 = .ok (.aload_n 1, 1) := by decide +kernel
theorem dX6_readKinds_85 : decode cX6_readKinds 85 = .ok (.getfield 67, 3) := by decide +kernel
theorem dX6_readKinds_88 : decode cX6_readKinds 88 = .ok (.iload_n 3, 1) := by decide +kernel
theorem dX6_readKinds_89 : decode cX6_readKinds 89 = .ok (.iastore, 1) := by decide +kernel
theorem dX6_readKinds_90 : decode cX6_readKinds 90 = .ok (.return_, 1) := by decide +kernel
theorem dX6_readNumber_0 : decode cX6_readNumber 0 = .ok (.aload_n 0, 1) := by decide +kernel
theorem dX6_readNumber_1 : decode cX6_readNumber 1 = .ok (.invokevirtual 33, 3) := by decide +kernel
theorem dX6_readNumber_4 : decode cX6_readNumber 4 = .ok (.aload_n 0, 1) := by decide +kernel
theorem dX6_readNumber_5 : decode cX6_readNumber 5 = .ok (.invokevirtual 40, 3) := by decide +kernel
theorem dX6_readNumber_8 : decode cX6_readNumber 8 = .ok (.invokestatic 101, 3) := by decide +kernel
theorem dX6_readNumber_11 : decode cX6_readNumber 11 = .ok (.ifCond .ne 14, 3) := by decide +kernel
theorem dX6_readNumber_14 : decode cX6_readNumber 14 = .ok (.aload_n 0, 1) := by decide +kernel
theorem dX6_readNumber_15 : decode cX6_readNumber 15 = .ok (.iconst 1, 1) := by decide +kernel
theorem dX6_readNumber_16 : decode cX6_readNumber 16 = .ok (.aload_n 0, 1) := by decide +kernel
theorem dX6_readNumber_17 : decode cX6_readNumber 17 = .ok (.getfield 25, 3) := by decide +kernel
theorem dX6_readNumber_20 : decode cX6_readNumber 20 = .ok (.invokevirtual 48, 3) := by decide +kernel
theorem dX6_readNumber_23 : decode cX6_readNumber 23 = .ok (.iload_n 1, 1) := by decide +kernel
theorem dX6_readNumber_24 : decode cX6_readNumber 24 = .ok (.ireturn, 1) := by decide +kernel
theorem dX6_readNumber_25 : decode cX6_readNumber 25 = .ok (.aload_n 0, 1) := by decide +kernel
theorem dX6_readNumber_26 : decode cX6_readNumber 26 = .ok (.getfield 25, 3) := by decide +kernel
theorem dX6_readNumber_29 : decode cX6_readNumber 29 = .ok (.istore_n 3, 1) := by decide +kernel
theorem dX6_readNumber_30 : decode cX6_readNumber 30 = .ok (.iconst 0, 1) := by decide +kernel
theorem dX6_readNumber_31 : decode cX6_readNumber 31 = .ok (.istore 4, 2) := by decide +kernel
theorem dX6_readNumber_33 : decode cX6_readNumber 33 = .ok (.aload_n 0, 1) := by decide +kernel
theorem dX6_readNumber_34 : decode cX6_readNumber 34 = .ok (.getfield 25, 3) := by decide +kernel
theorem dX6_readNumber_37 : decode cX6_readNumber 37 = .ok (.aload_n 0, 1) := by decide +kernel
theorem dX6_readNumber_38 : decode cX6_readNumber 38 = .ok (.getfield 15, 3) := by decide +kernel
theorem dX6_readNumber_41 : decode cX6_readNumber 41 = .ok (.if_icmp .ge 61, 3) := by decide +kernel
theorem dX6_readNumber_44 : decode cX6_readNumber 44 = .ok (.aload_n 0, 1) := by decide +kernel
theorem dX6_readNumber_45 : decode cX6_readNumber 45 = .ok (.getfield 9, 3) := by decide +kernel
theorem dX6_readNumber_48 : decode cX6_readNumber 48 = .ok (.aload_n 0, 1) := by decide +kernel
theorem dX6_readNumber_49 : decode cX6_readNumber 49 = .ok (.getfield 25, 3) := by decide +kernel
theorem dX6_readNumber_52 : decode cX6_readNumber 52 = .ok (.iaload, 1) := by decide +kernel
theorem dX6_readNumber_53 : decode cX6_readNumber 53 = .ok (.invokestatic 101, 3) := by decide +kernel
theorem dX6_readNumber_56 : decode cX6_readNumber 56 = .ok (.ifCond .eq 46, 3) := by decide +kernel
theorem dX6_readNumber_59 : decode cX6_readNumber 59 = .ok (.aload_n 0, 1) := by decide +kernel
theorem dX6_readNumber_60 : decode cX6_readNumber 60 = .ok (.getfield 25, 3) := by decide +kernel
theorem dX6_readNumber_63 : decode cX6_readNumber 63 = .ok (.iload_n 3, 1) := by decide +kernel
theorem dX6_readNumber_64 : decode cX6_readNumber 64 = .ok (.isub, 1) := by decide +kernel
theorem dX6_readNumber_65 : decode cX6_readNumber 65 = .ok (.iconst 3, 1) := by decide +kernel
theorem dX6_readNumber_66 : decode cX6_readNumber 66 = .ok (.if_icmp .ge 23, 3) := by decide +kernel
theorem dX6_readNumber_69 : decode cX6_readNumber 69 = .ok (.iload 4, 2) := by decide +kernel
theorem dX6_readNumber_71 : decode cX6_readNumber 71 = .ok (.bipush 10, 2) := by decide +kernel
theorem dX6_readNumber_73 : decode cX6_readNumber 73 = .ok (.imul, 1) := by decide +kernel
theorem dX6_readNumber_74 : decode cX6_readNumber 74 = .ok (.aload_n 0, 1) := by decide +kernel
theorem dX6_readNumber_75 : decode cX6_readNumber 75 = .ok (.getfield 9, 3) := by decide +kernel
theorem dX6_readNumber_78 : decode cX6_readNumber 78 = .ok (.aload_n 0, 1) := by decide +kernel
theorem dX6_readNumber_79 : decode cX6_readNumber 79 = .ok (.getfield 25, 3) := by decide +kernel
theorem dX6_readNumber_82 : decode cX6_readNumber 82 = .ok (.iaload, 1) := by decide +kernel
theorem dX6_readNumber_83 : decode cX6_readNumber 83 = .ok (.iadd, 1) := by decide +kernel
theorem dX6_readNumber_84 : decode cX6_readNumber 84 = .ok (.bipush 48, 2) := by decide +kernel
theorem dX6_readNumber_86 : decode cX6_readNumber 86 = .ok (.isub, 1) := by decide +kernel
theorem dX6_readNumber_87 : decode cX6_readNumber 87 = .ok (.istore 4, 2) := by decide +kernel
theorem dX6_readNumber_89 : decode cX6_readNumber 89 = .ok (.aload_n 0, 1) := by decide +kernel
theorem dX6_readNumber_90 : decode cX6_readNumber 90 = .ok (.dup, 1) := by decide +kernel
theorem dX6_readNumber_91 : decode cX6_readNumber 91 = .ok (.getfield 25, 3) := by decide +kernel
theorem dX6_readNumber_94 : decode cX6_readNumber 94 = .ok (.iconst 1, 1) := by decide +kernel
theorem dX6_readNumber_95 : decode cX6_readNumber 95 = .ok (.iadd, 1) := by decide +kernel
theorem dX6_readNumber_96 : decode cX6_readNumber 96 = .ok (.putfield 25, 3) := by decide +kernel
theorem dX6_readNumber_99 : decode cX6_readNumber 99 = .ok (.goto (-66), 3) := by decide +kernel
theorem dX6_readNumber_102 : decode cX6_readNumber 102 = .ok (.aload_n 0, 1) := by decide +kernel
theorem dX6_readNumber_103 : decode cX6_readNumber 103 = .ok (.getfield 25, 3) := by decide +kernel
theorem dX6_readNumber_106 : decode cX6_readNumber 106 = .ok (.iload_n 3, 1) := by decide +kernel
theorem dX6_readNumber_107 : decode cX6_readNumber 107 = .ok (.isub, 1) := by decide +kernel
theorem dX6_readNumber_108 : decode cX6_readNumber 108 = .ok (.iconst 3, 1) := by decide +kernel
theorem dX6_readNumber_109 : decode cX6_readNumber 109 = .ok (.if_icmp .gt 15, 3) := by decide +kernel
theorem dX6_readNumber_112 : decode cX6_readNumber 112 = .ok (.iload 4, 2) := by decide +kernel
theorem dX6_readNumber_114 : decode cX6_readNumber 114 = .ok (.iload_n 1, 1) := by decide +kernel
theorem dX6_readNumber_115 : decode cX6_readNumber 115 = .ok (.if_icmp .lt 9, 3) := by decide +kernel
theorem dX6_readNumber_118 : decode cX6_readNumber 118 = .ok (.iload 4, 2) := by decide +kernel
theorem dX6_readNumber_120 : decode cX6_readNumber 120 = .ok (.iload_n 2, 1) := by decide +kernel
theorem dX6_readNumber_121 : decode cX6_readNumber 121 = .ok (.if_icmp .le 11, 3) := by decide +kernel
theorem dX6_readNumber_124 : decode cX6_readNumber 124 = .ok (.aload_n 0, 1) := by decide +kernel
theorem dX6_readNumber_125 : decode cX6_readNumber 125 = .ok (.iconst 2, 1) := by decide +kernel
theorem dX6_readNumber_126 : decode cX6_readNumber 126 = .ok (.iload_n 3, 1) := by decide +kernel
theorem dX6_readNumber_127 : decode cX6_readNumber 127 = .ok (.invokevirtual 48, 3) := by decide +kernel
theorem dX6_readNumber_130 : decode cX6_readNumber 130 = .ok (.iload_n 1, 1) := by decide +kernel
theorem dX6_readNumber_131 : decode cX6_readNumber 131 = .ok (.ireturn, 1) := by decide +kernel
theorem dX6_readNumber_132 : decode cX6_readNumber 132 = .ok (.iload 4, 2) := by decide +kernel
theorem dX6_readNumber_134 : decode cX6_readNumber 134 = .ok (.ireturn, 1) := by decide +kernel
theorem dX6_readMark_0 : decode cX6_readMark 0 = .ok (.aload_n 0, 1) := by decide +kernel
theorem dX6_readMark_1 : decode cX6_readMark 1 = .ok (.invokevirtual 33, 3) := by decide +kernel
theorem dX6_readMark_4 : decode cX6_readMark 4 = .ok (.aload_n 0, 1) := by decide +kernel
theorem dX6_readMark_5 : decode cX6_readMark 5 = .ok (.invokevirtual 40, 3) := by decide +kernel
theorem dX6_readMark_8 : decode cX6_readMark 8 = .ok (.iload_n 1, 1) := by decide +kernel
theorem dX6_readMark_9 : decode cX6_readMark 9 = .ok (.if_icmp .ne 16, 3) := by decide +kernel
theorem dX6_readMark_12 : decode cX6_readMark 12 = .ok (.aload_n 0, 1) := by decide +kernel
theorem dX6_readMark_13 : decode cX6_readMark 13 = .ok (.dup, 1) := by decide +kernel
theorem dX6_readMark_14 : decode cX6_readMark 14 = .ok (.getfield 25, 3) := by decide +kernel
theorem dX6_readMark_17 : decode cX6_readMark 17 = .ok (.iconst 1, 1) := by decide +kernel
theorem dX6_readMark_18 : decode cX6_readMark 18 = .ok (.iadd, 1) := by decide +kernel
theorem dX6_readMark_19 : decode cX6_readMark 19 = .ok (.putfield 25, 3) := by decide +kernel
theorem dX6_readMark_22 : decode cX6_readMark 22 = .ok (.goto 12, 3) := by decide +kernel
theorem dX6_readMark_25 : decode cX6_readMark 25 = .ok (.aload_n 0, 1) := by decide +kernel
theorem dX6_readMark_26 : decode cX6_readMark 26 = .ok (.iconst 1, 1) := by decide +kernel
theorem dX6_readMark_27 : decode cX6_readMark 27 = .ok (.aload_n 0, 1) := by decide +kernel
theorem dX6_readMark_28 : decode cX6_readMark 28 = .ok (.getfield 25, 3) := by decide +kernel
theorem dX6_readMark_31 : decode cX6_readMark 31 = .ok (.invokevirtual 48, 3) := by decide +kernel
theorem dX6_readMark_34 : decode cX6_readMark 34 = .ok (.return_, 1) := by decide +kernel
theorem dX6_skipBlanks_0 : decode cX6_skipBlanks 0 = .ok (.aload_n 0, 1) := by decide +kernel
theorem dX6_skipBlanks_1 : decode cX6_skipBlanks 1 = .ok (.getfield 25, 3) := by decide +kernel
theorem dX6_skipBlanks_4 : decode cX6_skipBlanks 4 = .ok (.aload_n 0, 1) := by decide +kernel
theorem dX6_skipBlanks_5 : decode cX6_skipBlanks 5 = .ok (.getfield 15, 3) := by decide +kernel
theorem dX6_skipBlanks_8 : decode cX6_skipBlanks 8 = .ok (.if_icmp .ge 30, 3) := by decide +kernel
theorem dX6_skipBlanks_11 : decode cX6_skipBlanks 11 = .ok (.aload_n 0, 1) := by decide +kernel
theorem dX6_skipBlanks_12 : decode cX6_skipBlanks 12 = .ok (.getfield 9, 3) := by decide +kernel
theorem dX6_skipBlanks_15 : decode cX6_skipBlanks 15 = .ok (.aload_n 0, 1) := by decide +kernel
theorem dX6_skipBlanks_16 : decode cX6_skipBlanks 16 = .ok (.getfield 25, 3) := by decide +kernel
theorem dX6_skipBlanks_19 : decode cX6_skipBlanks 19 = .ok (.iaload, 1) := by decide +kernel
theorem dX6_skipBlanks_20 : decode cX6_skipBlanks 20 = .ok (.bipush 32, 2) := by decide +kernel
theorem dX6_skipBlanks_22 : decode cX6_skipBlanks 22 = .ok (.if_icmp .ne 16, 3) := by decide +kernel
theorem dX6_skipBlanks_25 : decode cX6_skipBlanks 25 = .ok (.aload_n 0, 1) := by decide +kernel
theorem dX6_skipBlanks_26 : decode cX6_skipBlanks 26 = .ok (.dup, 1) := by decide +kernel
theorem dX6_skipBlanks_27 : decode cX6_skipBlanks 27 = .ok (.getfield 25, 3) := by decide +kernel
theorem dX6_skipBlanks_30 : decode cX6_skipBlanks 30 = .ok (.iconst 1, 1) := by decide +kernel
theorem dX6_skipBlanks_31 : decode cX6_skipBlanks 31 = .ok (.iadd, 1) := by decide +kernel
theorem dX6_skipBlanks_32 : decode cX6_skipBlanks 32 = .ok (.putfield 25, 3) := by decide +kernel
theorem dX6_skipBlanks_35 : decode cX6_skipBlanks 35 = .ok (.goto (-35), 3) := by decide +kernel
theorem dX6_skipBlanks_38 : decode cX6_skipBlanks 38 = .ok (.return_, 1) := by decide +kernel
theorem dX6_letterHere_0 : decode cX6_letterHere 0 = .ok (.aload_n 0, 1) := by decide +kernel
theorem dX6_letterHere_1 : decode cX6_letterHere 1 = .ok (.getfield 25, 3) := by decide +kernel
theorem dX6_letterHere_4 : decode cX6_letterHere 4 = .ok (.aload_n 0, 1) := by decide +kernel
theorem dX6_letterHere_5 : decode cX6_letterHere 5 = .ok (.getfield 15, 3) := by decide +kernel
theorem dX6_letterHere_8 : decode cX6_letterHere 8 = .ok (.if_icmp .ge 15, 3) := by decide +kernel
theorem dX6_letterHere_11 : decode cX6_letterHere 11 = .ok (.aload_n 0, 1) := by decide +kernel
theorem dX6_letterHere_12 : decode cX6_letterHere 12 = .ok (.getfield 9, 3) := by decide +kernel
theorem dX6_letterHere_15 : decode cX6_letterHere 15 = .ok (.aload_n 0, 1) := by decide +kernel
theorem dX6_letterHere_16 : decode cX6_letterHere 16 = .ok (.getfield 25, 3) := by decide +kernel
theorem dX6_letterHere_19 : decode cX6_letterHere 19 = .ok (.iaload, 1) := by decide +kernel
theorem dX6_letterHere_20 : decode cX6_letterHere 20 = .ok (.goto 4, 3) := by decide +kernel
theorem dX6_letterHere_23 : decode cX6_letterHere 23 = .ok (.iconst (-1), 1) := by decide +kernel
theorem dX6_letterHere_24 : decode cX6_letterHere 24 = .ok (.ireturn, 1) := by decide +kernel
theorem dX6_isFigure_0 : decode cX6_isFigure 0 = .ok (.iload_n 0, 1) := by decide +kernel
theorem dX6_isFigure_1 : decode cX6_isFigure 1 = .ok (.bipush 48, 2) := by decide +kernel
theorem dX6_isFigure_3 : decode cX6_isFigure 3 = .ok (.if_icmp .lt 13, 3) := by decide +kernel
theorem dX6_isFigure_6 : decode cX6_isFigure 6 = .ok (.iload_n 0, 1) := by decide +kernel
theorem dX6_isFigure_7 : decode cX6_isFigure 7 = .ok (.bipush 57, 2) := by decide +kernel
theorem dX6_isFigure_9 : decode cX6_isFigure 9 = .ok (.if_icmp .gt 7, 3) := by decide +kernel
theorem dX6_isFigure_12 : decode cX6_isFigure 12 = .ok (.iconst 1, 1) := by decide +kernel
theorem dX6_isFigure_13 : decode cX6_isFigure 13 = .ok (.goto 4, 3) := by decide +kernel
theorem dX6_isFigure_16 : decode cX6_isFigure 16 = .ok (.iconst 0, 1) := by decide +kernel
theorem dX6_isFigure_17 : decode cX6_isFigure 17 = .ok (.ireturn, 1) := by decide +kernel
theorem dX6_blame_0 : decode cX6_blame 0 = .ok (.aload_n 0, 1) := by decide +kernel
theorem dX6_blame_1 : decode cX6_blame 1 = .ok (.getfield 19, 3) := by decide +kernel
theorem dX6_blame_4 : decode cX6_blame 4 = .ok (.ifCond .ne 13, 3) := by decide +kernel
theorem dX6_blame_7 : decode cX6_blame 7 = .ok (.aload_n 0, 1) := by decide +kernel
theorem dX6_blame_8 : decode cX6_blame 8 = .ok (.iload_n 1, 1) := by decide +kernel
theorem dX6_blame_9 : decode cX6_blame 9 = .ok (.putfield 19, 3) := by decide +kernel
theorem dX6_blame_12 : decode cX6_blame 12 = .ok (.aload_n 0, 1) := by decide +kernel
theorem dX6_blame_13 : decode cX6_blame 13 = .ok (.iload_n 2, 1) := by decide +kernel
theorem dX6_blame_14 : decode cX6_blame 14 = .ok (.putfield 22, 3) := by decide +kernel
theorem dX6_blame_17 : decode cX6_blame 17 = .ok (.return_, 1) := by decide +kernel
theorem dX7_init_0 : decode cX7_init 0 = .ok (.aload_n 0, 1) := by decide +kernel
theorem dX7_init_1 : decode cX7_init 1 = .ok (.invokespecial 3, 3) := by decide +kernel
theorem dX7_init_4 : decode cX7_init 4 = .ok (.aload_n 0, 1) := by decide +kernel
theorem dX7_init_5 : decode cX7_init 5 = .ok (.bipush 8, 2) := by decide +kernel
theorem dX7_init_7 : decode cX7_init 7 = .ok (.newarray .int, 2) := by decide +kernel
theorem dX7_init_9 : decode cX7_init 9 = .ok (.putfield 9, 3) := by decide +kernel
theorem dX7_init_12 : decode cX7_init 12 = .ok (.return_, 1) := by decide +kernel
theorem dX7_readings_0 : decode cX7_readings 0 = .ok (.aload_n 0, 1) := by decide +kernel
theorem dX7_readings_1 : decode cX7_readings 1 = .ok (.aload_n 1, 1) := by decide +kernel
theorem dX7_readings_2 : decode cX7_readings 2 = .ok (.aload_n 2, 1) := by decide +kernel
theorem dX7_readings_3 : decode cX7_readings 3 = .ok (.invokevirtual 15, 3) := by decide +kernel
theorem dX7_readings_6 : decode cX7_readings 6 = .ok (.aload_n 0, 1) := by decide +kernel
theorem dX7_readings_7 : decode cX7_readings 7 = .ok (.getfield 9, 3) := by decide +kernel
theorem dX7_readings_10 : decode cX7_readings 10 = .ok (.iconst 0, 1) := by decide +kernel
theorem dX7_readings_11 : decode cX7_readings 11 = .ok (.iaload, 1) := by decide +kernel
theorem dX7_readings_12 : decode cX7_readings 12 = .ok (.ireturn, 1) := by decide +kernel
theorem dX7_firstReading_0 : decode cX7_firstReading 0 = .ok (.aload_n 0, 1) := by decide +kernel
theorem dX7_firstReading_1 : decode cX7_firstReading 1 = .ok (.aload_n 1, 1) := by decide +kernel
theorem dX7_firstReading_2 : decode cX7_firstReading 2 = .ok (.aload_n 2, 1) := by decide +kernel
theorem dX7_firstReading_3 : decode cX7_firstReading 3 = .ok (.invokevirtual 15, 3) := by decide +kernel
theorem dX7_firstReading_6 : decode cX7_firstReading 6 = .ok (.aload_n 0, 1) := by decide +kernel
theorem dX7_firstReading_7 : decode cX7_firstReading 7 = .ok (.getfield 9, 3) := by decide +kernel
theorem dX7_firstReading_10 : decode cX7_firstReading 10 = .ok (.iconst 0, 1) := by decide +kernel
theorem dX7_firstReading_11 : decode cX7_firstReading 11 = .ok (.iaload, 1) := by decide +kernel
theorem dX7_firstReading_12 : decode cX7_firstReading 12 = .ok (.ifCond .ne 5, 3) := by decide +kernel
theorem dX7_firstReading_15 : decode cX7_firstReading 15 = .ok (.iconst (-1), 1) := by decide +kernel
theorem dX7_firstReading_16 : decode cX7_firstReading 16 = .ok (.ireturn, 1) := by decide +kernel
theorem dX7_firstReading_17 : decode cX7_firstReading 17 = .ok (.iconst 0, 1) := by decide +kernel
theorem dX7_firstReading_18 : decode cX7_firstReading 18 = .ok (.istore_n 3, 1) := by decide +kernel
theorem dX7_firstReading_19 : decode cX7_firstReading 19 = .ok (.iconst 0, 1) := by decide +kernel
theorem dX7_firstReading_20 : decode cX7_firstReading 20 = .ok (.istore 4, 2) := by decide +kernel
theorem dX7_firstReading_22 : decode cX7_firstReading 22 = .ok (.iconst 0, 1) := by decide +kernel
theorem dX7_firstReading_23 : decode cX7_firstReading 23 = .ok (.istore 5, 2) := by decide +kernel
theorem dX7_firstReading_25 : decode cX7_firstReading 25 = .ok (.iload 5, 2) := by decide +kernel
theorem dX7_firstReading_27 : decode cX7_firstReading 27 = .ok (.bipush 7, 2) := by decide +kernel
theorem dX7_firstReading_29 : decode cX7_firstReading 29 = .ok (.if_icmp .ge 58, 3) := by decide +kernel
theorem dX7_firstReading_32 : decode cX7_firstReading 32 = .ok (.iload 4, 2) := by decide +kernel
theorem dX7_firstReading_34 : decode cX7_firstReading 34 = .ok (.aload_n 2, 1) := by decide +kernel
theorem dX7_firstReading_35 : decode cX7_firstReading 35 = .ok (.getfield 19, 3) := by decide +kernel
theorem dX7_firstReading_38 : decode cX7_firstReading 38 = .ok (.if_icmp .ge 49, 3) := by decide +kernel
theorem dX7_firstReading_41 : decode cX7_firstReading 41 = .ok (.aload_n 0, 1) := by decide +kernel
theorem dX7_firstReading_42 : decode cX7_firstReading 42 = .ok (.aload_n 1, 1) := by decide +kernel
theorem dX7_firstReading_43 : decode cX7_firstReading 43 = .ok (.aload_n 2, 1) := by decide +kernel
theorem dX7_firstReading_44 : decode cX7_firstReading 44 = .ok (.iload 4, 2) := by decide +kernel
theorem dX7_firstReading_46 : decode cX7_firstReading 46 = .ok (.invokevirtual 25, 3) := by decide +kernel
theorem dX7_firstReading_49 : decode cX7_firstReading 49 = .ok (.istore 6, 2) := by decide +kernel
theorem dX7_firstReading_51 : decode cX7_firstReading 51 = .ok (.iload 6, 2) := by decide +kernel
theorem dX7_firstReading_53 : decode cX7_firstReading 53 = .ok (.iconst (-1), 1) := by decide +kernel
theorem dX7_firstReading_54 : decode cX7_firstReading 54 = .ok (.if_icmp .ne 5, 3) := by decide +kernel
theorem dX7_firstReading_57 : decode cX7_firstReading 57 = .ok (.iconst (-1), 1) := by decide +kernel
theorem dX7_firstReading_58 : decode cX7_firstReading 58 = .ok (.ireturn, 1) := by decide +kernel
theorem dX7_firstReading_59 : decode cX7_firstReading 59 = .ok (.iload_n 3, 1) := by decide +kernel
theorem dX7_firstReading_60 : decode cX7_firstReading 60 = .ok (.bipush 10, 2) := by decide +kernel
theorem dX7_firstReading_62 : decode cX7_firstReading 62 = .ok (.imul, 1) := by decide +kernel
theorem dX7_firstReading_63 : decode cX7_firstReading 63 = .ok (.iload 6, 2) := by decide +kernel
theorem dX7_firstReading_65 : decode cX7_firstReading 65 = .ok (.iadd, 1) := by decide +kernel
theorem dX7_firstReading_66 : decode cX7_firstReading 66 = .ok (.iconst 1, 1) := by decide +kernel
theorem dX7_firstReading_67 : decode cX7_firstReading 67 = .ok (.iadd, 1) := by decide +kernel
theorem dX7_firstReading_68 : decode cX7_firstReading 68 = .ok (.istore_n 3, 1) := by decide +kernel
theorem dX7_firstReading_69 : decode cX7_firstReading 69 = .ok (.iload 4, 2) := by decide +kernel
theorem dX7_firstReading_71 : decode cX7_firstReading 71 = .ok (.aload_n 1, 1) := by decide +kernel
theorem dX7_firstReading_72 : decode cX7_firstReading 72 = .ok (.getfield 29, 3) := by decide +kernel
theorem dX7_firstReading_75 : decode cX7_firstReading 75 = .ok (.iload 6, 2) := by decide +kernel
theorem dX7_firstReading_77 : decode cX7_firstReading 77 = .ok (.iaload, 1) := by decide +kernel
theorem dX7_firstReading_78 : decode cX7_firstReading 78 = .ok (.iadd, 1) := by decide +kernel
theorem dX7_firstReading_79 : decode cX7_firstReading 79 = .ok (.istore 4, 2) := by decide +kernel
theorem dX7_firstReading_81 : decode cX7_firstReading 81 = .ok (.iinc 5 1, 3) := by decide +kernel
theorem dX7_firstReading_84 : decode cX7_firstReading 84 = .ok (.goto (-59), 3) := by decide +kernel
theorem dX7_firstReading_87 : decode cX7_firstReading 87 = .ok (.iload_n 3, 1) := by decide +kernel
theorem dX7_firstReading_88 : decode cX7_firstReading 88 = .ok (.ireturn, 1) := by decide +kernel
theorem dX7_spelt_0 : decode cX7_spelt 0 = .ok (.iconst 0, 1) := by decide +kernel
theorem dX7_spelt_1 : decode cX7_spelt 1 = .ok (.istore_n 3, 1) := by decide +kernel
theorem dX7_spelt_2 : decode cX7_spelt 2 = .ok (.iconst 0, 1) := by decide +kernel
theorem dX7_spelt_3 : decode cX7_spelt 3 = .ok (.istore 4, 2) := by decide +kernel
theorem dX7_spelt_5 : decode cX7_spelt 5 = .ok (.iload 4, 2) := by decide +kernel
theorem dX7_spelt_7 : decode cX7_spelt 7 = .ok (.aload_n 2, 1) := by decide +kernel
theorem dX7_spelt_8 : decode cX7_spelt 8 = .ok (.getfield 19, 3) := by decide +kernel
theorem dX7_spelt_11 : decode cX7_spelt 11 = .ok (.if_icmp .ge 46, 3) := by decide +kernel
theorem dX7_spelt_14 : decode cX7_spelt 14 = .ok (.iconst 0, 1) := by decide +kernel
theorem dX7_spelt_15 : decode cX7_spelt 15 = .ok (.istore 5, 2) := by decide +kernel
theorem dX7_spelt_17 : decode cX7_spelt 17 = .ok (.iload 5, 2) := by decide +kernel
theorem dX7_spelt_19 : decode cX7_spelt 19 = .ok (.aload_n 1, 1) := by decide +kernel
theorem dX7_spelt_20 : decode cX7_spelt 20 = .ok (.getfield 34, 3) := by decide +kernel
theorem dX7_spelt_23 : decode cX7_spelt 23 = .ok (.if_icmp .ge 28, 3) := by decide +kernel
theorem dX7_spelt_26 : decode cX7_spelt 26 = .ok (.aload_n 1, 1) := by decide +kernel
theorem dX7_spelt_27 : decode cX7_spelt 27 = .ok (.aload_n 2, 1) := by decide +kernel
theorem dX7_spelt_28 : decode cX7_spelt 28 = .ok (.iload 5, 2) := by decide +kernel
theorem dX7_spelt_30 : decode cX7_spelt 30 = .ok (.iload 4, 2) := by decide +kernel
theorem dX7_spelt_32 : decode cX7_spelt 32 = .ok (.invokestatic 37, 3) := by decide +kernel
theorem dX7_spelt_35 : decode cX7_spelt 35 = .ok (.ifCond .eq 10, 3) := by decide +kernel
theorem dX7_spelt_38 : decode cX7_spelt 38 = .ok (.iload_n 3, 1) := by decide +kernel
theorem dX7_spelt_39 : decode cX7_spelt 39 = .ok (.iconst 1, 1) := by decide +kernel
theorem dX7_spelt_40 : decode cX7_spelt 40 = .ok (.iload 4, 2) := by decide +kernel
theorem dX7_spelt_42 : decode cX7_spelt 42 = .ok (.ishl, 1) := by decide +kernel
theorem dX7_spelt_43 : decode cX7_spelt 43 = .ok (.ior, 1) := by decide +kernel
theorem dX7_spelt_44 : decode cX7_spelt 44 = .ok (.istore_n 3, 1) := by decide +kernel
theorem dX7_spelt_45 : decode cX7_spelt 45 = .ok (.iinc 5 1, 3) := by decide +kernel
theorem dX7_spelt_48 : decode cX7_spelt 48 = .ok (.goto (-31), 3) := by decide +kernel
theorem dX7_spelt_51 : decode cX7_spelt 51 = .ok (.iinc 4 1, 3) := by decide +kernel
theorem dX7_spelt_54 : decode cX7_spelt 54 = .ok (.goto (-49), 3) := by decide +kernel
theorem dX7_spelt_57 : decode cX7_spelt 57 = .ok (.iload_n 3, 1) := by decide +kernel
theorem dX7_spelt_58 : decode cX7_spelt 58 = .ok (.ireturn, 1) := by decide +kernel
theorem dX7_countWays_0 : decode cX7_countWays 0 = .ok (.aload_n 0, 1) := by decide +kernel
theorem dX7_countWays_1 : decode cX7_countWays 1 = .ok (.getfield 9, 3) := by decide +kernel
theorem dX7_countWays_4 : decode cX7_countWays 4 = .ok (.aload_n 2, 1) := by decide +kernel
theorem dX7_countWays_5 : decode cX7_countWays 5 = .ok (.getfield 19, 3) := by decide +kernel
theorem dX7_countWays_8 : decode cX7_countWays 8 = .ok (.iconst 1, 1) := by decide +kernel
theorem dX7_countWays_9 : decode cX7_countWays 9 = .ok (.iastore, 1) := by decide +kernel
theorem dX7_countWays_10 : decode cX7_countWays 10 = .ok (.aload_n 2, 1) := by decide +kernel
theorem dX7_countWays_11 : decode cX7_countWays 11 = .ok (.getfield 19, 3) := by decide +kernel
theorem dX7_countWays_14 : decode cX7_countWays 14 = .ok (.iconst 1, 1) := by decide +kernel
theorem dX7_countWays_15 : decode cX7_countWays 15 = .ok (.isub, 1) := by decide +kernel
theorem dX7_countWays_16 : decode cX7_countWays 16 = .ok (.istore_n 3, 1) := by decide +kernel
theorem dX7_countWays_17 : decode cX7_countWays 17 = .ok (.iload_n 3, 1) := by decide +kernel
theorem dX7_countWays_18 : decode cX7_countWays 18 = .ok (.ifCond .lt 68, 3) := by decide +kernel
theorem dX7_countWays_21 : decode cX7_countWays 21 = .ok (.aload_n 0, 1) := by decide +kernel
theorem dX7_countWays_22 : decode cX7_countWays 22 = .ok (.getfield 9, 3) := by decide +kernel
theorem dX7_countWays_25 : decode cX7_countWays 25 = .ok (.iload_n 3, 1) := by decide +kernel
theorem dX7_countWays_26 : decode cX7_countWays 26 = .ok (.iconst 0, 1) := by decide +kernel
theorem dX7_countWays_27 : decode cX7_countWays 27 = .ok (.iastore, 1) := by decide +kernel
theorem dX7_countWays_28 : decode cX7_countWays 28 = .ok (.iconst 0, 1) := by decide +kernel
theorem dX7_countWays_29 : decode cX7_countWays 29 = .ok (.istore 4, 2) := by decide +kernel
theorem dX7_countWays_31 : decode cX7_countWays 31 = .ok (.iload 4, 2) := by decide +kernel
theorem dX7_countWays_33 : decode cX7_countWays 33 = .ok (.aload_n 1, 1) := by decide +kernel
theorem dX7_countWays_34 : decode cX7_countWays 34 = .ok (.getfield 34, 3) := by decide +kernel
theorem dX7_countWays_37 : decode cX7_countWays 37 = .ok (.if_icmp .ge 43, 3) := by decide +kernel
theorem dX7_countWays_40 : decode cX7_countWays 40 = .ok (.aload_n 1, 1) := by decide +kernel
theorem dX7_countWays_41 : decode cX7_countWays 41 = .ok (.aload_n 2, 1) := by decide +kernel
theorem dX7_countWays_42 : decode cX7_countWays 42 = .ok (.iload 4, 2) := by decide +kernel
theorem dX7_countWays_44 : decode cX7_countWays 44 = .ok (.iload_n 3, 1) := by decide +kernel
theorem dX7_countWays_45 : decode cX7_countWays 45 = .ok (.invokestatic 37, 3) := by decide +kernel
theorem dX7_countWays_48 : decode cX7_countWays 48 = .ok (.ifCond .eq 26, 3) := by decide +kernel
theorem dX7_countWays_51 : decode cX7_countWays 51 = .ok (.aload_n 0, 1) := by decide +kernel
theorem dX7_countWays_52 : decode cX7_countWays 52 = .ok (.getfield 9, 3) := by decide +kernel
theorem dX7_countWays_55 : decode cX7_countWays 55 = .ok (.iload_n 3, 1) := by decide +kernel
theorem dX7_countWays_56 : decode cX7_countWays 56 = .ok (.dup2, 1) := by decide +kernel
theorem dX7_countWays_57 : decode cX7_countWays 57 = .ok (.iaload, 1) := by decide +kernel
theorem dX7_countWays_58 : decode cX7_countWays 58 = .ok (.aload_n 0, 1) := by decide +kernel
theorem dX7_countWays_59 : decode cX7_countWays 59 = .ok (.getfield 9, 3) := by decide +kernel
theorem dX7_countWays_62 : decode cX7_countWays 62 = .ok (.iload_n 3, 1) := by decide +kernel
theorem dX7_countWays_63 : decode cX7_countWays 63 = .ok (.aload_n 1, 1) := by decide +kernel
theorem dX7_countWays_64 : decode cX7_countWays 64 = .ok (.getfield 29, 3) := by decide +kernel
theorem dX7_countWays_67 : decode cX7_countWays 67 = .ok (.iload 4, 2) := by decide +kernel
theorem dX7_countWays_69 : decode cX7_countWays 69 = .ok (.iaload, 1) := by decide +kernel
theorem dX7_countWays_70 : decode cX7_countWays 70 = .ok (.iadd, 1) := by decide +kernel
theorem dX7_countWays_71 : decode cX7_countWays 71 = .ok (.iaload, 1) := by decide +kernel
theorem dX7_countWays_72 : decode cX7_countWays 72 = .ok (.iadd, 1) := by decide +kernel
theorem dX7_countWays_73 : decode cX7_countWays 73 = .ok (.iastore, 1) := by decide +kernel
theorem dX7_countWays_74 : decode cX7_countWays 74 = .ok (.iinc 4 1, 3) := by decide +kernel
theorem dX7_countWays_77 : decode cX7_countWays 77 = .ok (.goto (-46), 3) := by decide +kernel
theorem dX7_countWays_80 : decode cX7_countWays 80 = .ok (.iinc 3 (-1), 3) := by decide +kernel
theorem dX7_countWays_83 : decode cX7_countWays 83 = .ok (.goto (-66), 3) := by decide +kernel
theorem dX7_countWays_86 : decode cX7_countWays 86 = .ok (.return_, 1) := by decide +kernel
theorem dX7_firstWordOn_0 : decode cX7_firstWordOn 0 = .ok (.iconst 0, 1) := by decide +kernel
theorem dX7_firstWordOn_1 : decode cX7_firstWordOn 1 = .ok (.istore 4, 2) := by decide +kernel
theorem dX7_firstWordOn_3 : decode cX7_firstWordOn 3 = .ok (.iload 4, 2) := by decide +kernel
theorem dX7_firstWordOn_5 : decode cX7_firstWordOn 5 = .ok (.aload_n 1, 1) := by decide +kernel
theorem dX7_firstWordOn_6 : decode cX7_firstWordOn 6 = .ok (.getfield 34, 3) := by decide +kernel
theorem dX7_firstWordOn_9 : decode cX7_firstWordOn 9 = .ok (.if_icmp .ge 40, 3) := by decide +kernel
theorem dX7_firstWordOn_12 : decode cX7_firstWordOn 12 = .ok (.aload_n 1, 1) := by decide +kernel
theorem dX7_firstWordOn_13 : decode cX7_firstWordOn 13 = .ok (.aload_n 2, 1) := by decide +kernel
theorem dX7_firstWordOn_14 : decode cX7_firstWordOn 14 = .ok (.iload 4, 2) := by decide +kernel
theorem dX7_firstWordOn_16 : decode cX7_firstWordOn 16 = .ok (.iload_n 3, 1) := by decide +kernel
theorem dX7_firstWordOn_17 : decode cX7_firstWordOn 17 = .ok (.invokestatic 37, 3) := by decide +kernel
theorem dX7_firstWordOn_20 : decode cX7_firstWordOn 20 = .ok (.ifCond .eq 23, 3) := by decide +kernel
theorem dX7_firstWordOn_23 : decode cX7_firstWordOn 23 = .ok (.aload_n 0, 1) := by decide +kernel
theorem dX7_firstWordOn_24 : decode cX7_firstWordOn 24 = .ok (.getfield 9, 3) := by decide +kernel
theorem dX7_firstWordOn_27 : decode cX7_firstWordOn 27 = .ok (.iload_n 3, 1) := by decide +kernel
theorem dX7_firstWordOn_28 : decode cX7_firstWordOn 28 = .ok (.aload_n 1, 1) := by decide +kernel
theorem dX7_firstWordOn_29 : decode cX7_firstWordOn 29 = .ok (.getfield 29, 3) := by decide +kernel
theorem dX7_firstWordOn_32 : decode cX7_firstWordOn 32 = .ok (.iload 4, 2) := by decide +kernel
theorem dX7_firstWordOn_34 : decode cX7_firstWordOn 34 = .ok (.iaload, 1) := by decide +kernel
theorem dX7_firstWordOn_35 : decode cX7_firstWordOn 35 = .ok (.iadd, 1) := by decide +kernel
theorem dX7_firstWordOn_36 : decode cX7_firstWordOn 36 = .ok (.iaload, 1) := by decide +kernel
theorem dX7_firstWordOn_37 : decode cX7_firstWordOn 37 = .ok (.ifCond .le 6, 3) := by decide +kernel
theorem dX7_firstWordOn_40 : decode cX7_firstWordOn 40 = .ok (.iload 4, 2) := by decide +kernel
theorem dX7_firstWordOn_42 : decode cX7_firstWordOn 42 = .ok (.ireturn, 1) := by decide +kernel
theorem dX7_firstWordOn_43 : decode cX7_firstWordOn 43 = .ok (.iinc 4 1, 3) := by decide +kernel
theorem dX7_firstWordOn_46 : decode cX7_firstWordOn 46 = .ok (.goto (-43), 3) := by decide +kernel
theorem dX7_firstWordOn_49 : decode cX7_firstWordOn 49 = .ok (.iconst (-1), 1) := by decide +kernel
theorem dX7_firstWordOn_50 : decode cX7_firstWordOn 50 = .ok (.ireturn, 1) := by decide +kernel
theorem dX7_begins_0 : decode cX7_begins 0 = .ok (.iload_n 3, 1) := by decide +kernel
theorem dX7_begins_1 : decode cX7_begins 1 = .ok (.aload_n 0, 1) := by decide +kernel
theorem dX7_begins_2 : decode cX7_begins 2 = .ok (.getfield 29, 3) := by decide +kernel
theorem dX7_begins_5 : decode cX7_begins 5 = .ok (.iload_n 2, 1) := by decide +kernel
theorem dX7_begins_6 : decode cX7_begins 6 = .ok (.iaload, 1) := by decide +kernel
theorem dX7_begins_7 : decode cX7_begins 7 = .ok (.iadd, 1) := by decide +kernel
theorem dX7_begins_8 : decode cX7_begins 8 = .ok (.aload_n 1, 1) := by decide +kernel
theorem dX7_begins_9 : decode cX7_begins 9 = .ok (.getfield 19, 3) := by decide +kernel
theorem dX7_begins_12 : decode cX7_begins 12 = .ok (.if_icmp .le 5, 3) := by decide +kernel
theorem dX7_begins_15 : decode cX7_begins 15 = .ok (.iconst 0, 1) := by decide +kernel
theorem dX7_begins_16 : decode cX7_begins 16 = .ok (.ireturn, 1) := by decide +kernel
theorem dX7_begins_17 : decode cX7_begins 17 = .ok (.iconst 0, 1) := by decide +kernel
theorem dX7_begins_18 : decode cX7_begins 18 = .ok (.istore 4, 2) := by decide +kernel
theorem dX7_begins_20 : decode cX7_begins 20 = .ok (.iload 4, 2) := by decide +kernel
theorem dX7_begins_22 : decode cX7_begins 22 = .ok (.aload_n 0, 1) := by decide +kernel
theorem dX7_begins_23 : decode cX7_begins 23 = .ok (.getfield 29, 3) := by decide +kernel
theorem dX7_begins_26 : decode cX7_begins 26 = .ok (.iload_n 2, 1) := by decide +kernel
theorem dX7_begins_27 : decode cX7_begins 27 = .ok (.iaload, 1) := by decide +kernel
theorem dX7_begins_28 : decode cX7_begins 28 = .ok (.if_icmp .ge 35, 3) := by decide +kernel
theorem dX7_begins_31 : decode cX7_begins 31 = .ok (.aload_n 0, 1) := by decide +kernel
theorem dX7_begins_32 : decode cX7_begins 32 = .ok (.getfield 41, 3) := by decide +kernel
theorem dX7_begins_35 : decode cX7_begins 35 = .ok (.aload_n 1, 1) := by decide +kernel
theorem dX7_begins_36 : decode cX7_begins 36 = .ok (.getfield 44, 3) := by decide +kernel
theorem dX7_begins_39 : decode cX7_begins 39 = .ok (.iload_n 3, 1) := by decide +kernel
theorem dX7_begins_40 : decode cX7_begins 40 = .ok (.iload 4, 2) := by decide +kernel
theorem dX7_begins_42 : decode cX7_begins 42 = .ok (.iadd, 1) := by decide +kernel
theorem dX7_begins_43 : decode cX7_begins 43 = .ok (.iaload, 1) := by decide +kernel
theorem dX7_begins_44 : decode cX7_begins 44 = .ok (.iaload, 1) := by decide +kernel
theorem dX7_begins_45 : decode cX7_begins 45 = .ok (.aload_n 0, 1) := by decide +kernel
theorem dX7_begins_46 : decode cX7_begins 46 = .ok (.iload_n 2, 1) := by decide +kernel
theorem dX7_begins_47 : decode cX7_begins 47 = .ok (.iload 4, 2) := by decide +kernel
theorem dX7_begins_49 : decode cX7_begins 49 = .ok (.invokevirtual 47, 3) := by decide +kernel
theorem dX7_begins_52 : decode cX7_begins 52 = .ok (.if_icmp .eq 5, 3) := by decide +kernel
theorem dX7_begins_55 : decode cX7_begins 55 = .ok (.iconst 0, 1) := by decide +kernel
theorem dX7_begins_56 : decode cX7_begins 56 = .ok (.ireturn, 1) := by decide +kernel
theorem dX7_begins_57 : decode cX7_begins 57 = .ok (.iinc 4 1, 3) := by decide +kernel
theorem dX7_begins_60 : decode cX7_begins 60 = .ok (.goto (-40), 3) := by decide +kernel
theorem dX7_begins_63 : decode cX7_begins 63 = .ok (.iconst 1, 1) := by decide +kernel
theorem dX7_begins_64 : decode cX7_begins 64 = .ok (.ireturn, 1) := by decide +kernel
theorem dX8_init_0 : decode cX8_init 0 = .ok (.aload_n 0, 1) := by decide +kernel
theorem dX8_init_1 : decode cX8_init 1 = .ok (.invokespecial 3, 3) := by decide +kernel
theorem dX8_init_4 : decode cX8_init 4 = .ok (.aload_n 0, 1) := by decide +kernel
theorem dX8_init_5 : decode cX8_init 5 = .ok (.bipush 8, 2) := by decide +kernel
theorem dX8_init_7 : decode cX8_init 7 = .ok (.newarray .int, 2) := by decide +kernel
theorem dX8_init_9 : decode cX8_init 9 = .ok (.putfield 9, 3) := by decide +kernel
theorem dX8_init_12 : decode cX8_init 12 = .ok (.return_, 1) := by decide +kernel
theorem dX8_more_0 : decode cX8_more 0 = .ok (.aload_n 2, 1) := by decide +kernel
theorem dX8_more_1 : decode cX8_more 1 = .ok (.getfield 15, 3) := by decide +kernel
theorem dX8_more_4 : decode cX8_more 4 = .ok (.ifCond .ne 5, 3) := by decide +kernel
theorem dX8_more_7 : decode cX8_more 7 = .ok (.iconst 0, 1) := by decide +kernel
theorem dX8_more_8 : decode cX8_more 8 = .ok (.ireturn, 1) := by decide +kernel
theorem dX8_more_9 : decode cX8_more 9 = .ok (.aload_n 0, 1) := by decide +kernel
theorem dX8_more_10 : decode cX8_more 10 = .ok (.aload_n 1, 1) := by decide +kernel
theorem dX8_more_11 : decode cX8_more 11 = .ok (.aload_n 2, 1) := by decide +kernel
theorem dX8_more_12 : decode cX8_more 12 = .ok (.invokevirtual 21, 3) := by decide +kernel
theorem dX8_more_15 : decode cX8_more 15 = .ok (.aload_n 0, 1) := by decide +kernel
theorem dX8_more_16 : decode cX8_more 16 = .ok (.aload_n 1, 1) := by decide +kernel
theorem dX8_more_17 : decode cX8_more 17 = .ok (.aload_n 2, 1) := by decide +kernel
theorem dX8_more_18 : decode cX8_more 18 = .ok (.invokevirtual 25, 3) := by decide +kernel
theorem dX8_more_21 : decode cX8_more 21 = .ok (.aload_n 0, 1) := by decide +kernel
theorem dX8_more_22 : decode cX8_more 22 = .ok (.aload_n 1, 1) := by decide +kernel
theorem dX8_more_23 : decode cX8_more 23 = .ok (.aload_n 2, 1) := by decide +kernel
theorem dX8_more_24 : decode cX8_more 24 = .ok (.invokevirtual 29, 3) := by decide +kernel
theorem dX8_more_27 : decode cX8_more 27 = .ok (.invokestatic 32, 3) := by decide +kernel
theorem dX8_more_30 : decode cX8_more 30 = .ok (.ireturn, 1) := by decide +kernel
theorem dX8_firstEnd_0 : decode cX8_firstEnd 0 = .ok (.aload_n 2, 1) := by decide +kernel
theorem dX8_firstEnd_1 : decode cX8_firstEnd 1 = .ok (.getfield 15, 3) := by decide +kernel
theorem dX8_firstEnd_4 : decode cX8_firstEnd 4 = .ok (.ifCond .ne 5, 3) := by decide +kernel
theorem dX8_firstEnd_7 : decode cX8_firstEnd 7 = .ok (.iconst (-1), 1) := by decide +kernel
theorem dX8_firstEnd_8 : decode cX8_firstEnd 8 = .ok (.ireturn, 1) := by decide +kernel
theorem dX8_firstEnd_9 : decode cX8_firstEnd 9 = .ok (.aload_n 0, 1) := by decide +kernel
theorem dX8_firstEnd_10 : decode cX8_firstEnd 10 = .ok (.aload_n 1, 1) := by decide +kernel
theorem dX8_firstEnd_11 : decode cX8_firstEnd 11 = .ok (.aload_n 2, 1) := by decide +kernel
theorem dX8_firstEnd_12 : decode cX8_firstEnd 12 = .ok (.invokevirtual 21, 3) := by decide +kernel
theorem dX8_firstEnd_15 : decode cX8_firstEnd 15 = .ok (.aload_n 0, 1) := by decide +kernel
theorem dX8_firstEnd_16 : decode cX8_firstEnd 16 = .ok (.aload_n 1, 1) := by decide +kernel
theorem dX8_firstEnd_17 : decode cX8_firstEnd 17 = .ok (.aload_n 2, 1) := by decide +kernel
theorem dX8_firstEnd_18 : decode cX8_firstEnd 18 = .ok (.invokevirtual 29, 3) := by decide +kernel
theorem dX8_firstEnd_21 : decode cX8_firstEnd 21 = .ok (.aload_n 0, 1) := by decide +kernel
theorem dX8_firstEnd_22 : decode cX8_firstEnd 22 = .ok (.aload_n 1, 1) := by decide +kernel
theorem dX8_firstEnd_23 : decode cX8_firstEnd 23 = .ok (.aload_n 2, 1) := by decide +kernel
theorem dX8_firstEnd_24 : decode cX8_firstEnd 24 = .ok (.invokevirtual 25, 3) := by decide +kernel
theorem dX8_firstEnd_27 : decode cX8_firstEnd 27 = .ok (.if_icmp .le 7, 3) := by decide +kernel
theorem dX8_firstEnd_30 : decode cX8_firstEnd 30 = .ok (.iconst 1, 1) := by decide +kernel
theorem dX8_firstEnd_31 : decode cX8_firstEnd 31 = .ok (.goto 4, 3) := by decide +kernel
theorem dX8_firstEnd_34 : decode cX8_firstEnd 34 = .ok (.iconst 0, 1) := by decide +kernel
theorem dX8_firstEnd_35 : decode cX8_firstEnd 35 = .ok (.ireturn, 1) := by decide +kernel
theorem dX8_byFront_0 : decode cX8_byFront 0 = .ok (.aload_n 1, 1) := by decide +kernel
theorem dX8_byFront_1 : decode cX8_byFront 1 = .ok (.getfield 38, 3) := by decide +kernel
theorem dX8_byFront_4 : decode cX8_byFront 4 = .ok (.aload_n 2, 1) := by decide +kernel
theorem dX8_byFront_5 : decode cX8_byFront 5 = .ok (.getfield 43, 3) := by decide +kernel
theorem dX8_byFront_8 : decode cX8_byFront 8 = .ok (.iconst 0, 1) := by decide +kernel
theorem dX8_byFront_9 : decode cX8_byFront 9 = .ok (.iaload, 1) := by decide +kernel
theorem dX8_byFront_10 : decode cX8_byFront 10 = .ok (.iaload, 1) := by decide +kernel
theorem dX8_byFront_11 : decode cX8_byFront 11 = .ok (.aload_n 0, 1) := by decide +kernel
theorem dX8_byFront_12 : decode cX8_byFront 12 = .ok (.getfield 9, 3) := by decide +kernel
theorem dX8_byFront_15 : decode cX8_byFront 15 = .ok (.iconst 1, 1) := by decide +kernel
theorem dX8_byFront_16 : decode cX8_byFront 16 = .ok (.iaload, 1) := by decide +kernel
theorem dX8_byFront_17 : decode cX8_byFront 17 = .ok (.isub, 1) := by decide +kernel
theorem dX8_byFront_18 : decode cX8_byFront 18 = .ok (.ireturn, 1) := by decide +kernel
theorem dX8_byBack_0 : decode cX8_byBack 0 = .ok (.aload_n 1, 1) := by decide +kernel
theorem dX8_byBack_1 : decode cX8_byBack 1 = .ok (.getfield 38, 3) := by decide +kernel
theorem dX8_byBack_4 : decode cX8_byBack 4 = .ok (.aload_n 2, 1) := by decide +kernel
theorem dX8_byBack_5 : decode cX8_byBack 5 = .ok (.getfield 43, 3) := by decide +kernel
theorem dX8_byBack_8 : decode cX8_byBack 8 = .ok (.aload_n 2, 1) := by decide +kernel
theorem dX8_byBack_9 : decode cX8_byBack 9 = .ok (.getfield 15, 3) := by decide +kernel
theorem dX8_byBack_12 : decode cX8_byBack 12 = .ok (.iconst 1, 1) := by decide +kernel
theorem dX8_byBack_13 : decode cX8_byBack 13 = .ok (.isub, 1) := by decide +kernel
theorem dX8_byBack_14 : decode cX8_byBack 14 = .ok (.iaload, 1) := by decide +kernel
theorem dX8_byBack_15 : decode cX8_byBack 15 = .ok (.iaload, 1) := by decide +kernel
theorem dX8_byBack_16 : decode cX8_byBack 16 = .ok (.aload_n 0, 1) := by decide +kernel
theorem dX8_byBack_17 : decode cX8_byBack 17 = .ok (.getfield 9, 3) := by decide +kernel
theorem dX8_byBack_20 : decode cX8_byBack 20 = .ok (.iconst 0, 1) := by decide +kernel
theorem dX8_byBack_21 : decode cX8_byBack 21 = .ok (.iaload, 1) := by decide +kernel
theorem dX8_byBack_22 : decode cX8_byBack 22 = .ok (.isub, 1) := by decide +kernel
theorem dX8_byBack_23 : decode cX8_byBack 23 = .ok (.ireturn, 1) := by decide +kernel
theorem dX8_fillLeads_0 : decode cX8_fillLeads 0 = .ok (.aload_n 0, 1) := by decide +kernel
theorem dX8_fillLeads_1 : decode cX8_fillLeads 1 = .ok (.getfield 9, 3) := by decide +kernel
theorem dX8_fillLeads_4 : decode cX8_fillLeads 4 = .ok (.iconst 0, 1) := by decide +kernel
theorem dX8_fillLeads_5 : decode cX8_fillLeads 5 = .ok (.invokestatic 46, 3) := by decide +kernel
theorem dX8_fillLeads_8 : decode cX8_fillLeads 8 = .ok (.iconst 1, 1) := by decide +kernel
theorem dX8_fillLeads_9 : decode cX8_fillLeads 9 = .ok (.istore_n 3, 1) := by decide +kernel
theorem dX8_fillLeads_10 : decode cX8_fillLeads 10 = .ok (.iload_n 3, 1) := by decide +kernel
theorem dX8_fillLeads_11 : decode cX8_fillLeads 11 = .ok (.aload_n 2, 1) := by decide +kernel
theorem dX8_fillLeads_12 : decode cX8_fillLeads 12 = .ok (.getfield 15, 3) := by decide +kernel
theorem dX8_fillLeads_15 : decode cX8_fillLeads 15 = .ok (.if_icmp .ge 93, 3) := by decide +kernel
theorem dX8_fillLeads_18 : decode cX8_fillLeads 18 = .ok (.iconst 0, 1) := by decide +kernel
theorem dX8_fillLeads_19 : decode cX8_fillLeads 19 = .ok (.istore 4, 2) := by decide +kernel
theorem dX8_fillLeads_21 : decode cX8_fillLeads 21 = .ok (.iload 4, 2) := by decide +kernel
theorem dX8_fillLeads_23 : decode cX8_fillLeads 23 = .ok (.iload_n 3, 1) := by decide +kernel
theorem dX8_fillLeads_24 : decode cX8_fillLeads 24 = .ok (.iadd, 1) := by decide +kernel
theorem dX8_fillLeads_25 : decode cX8_fillLeads 25 = .ok (.aload_n 2, 1) := by decide +kernel
theorem dX8_fillLeads_26 : decode cX8_fillLeads 26 = .ok (.getfield 15, 3) := by decide +kernel
theorem dX8_fillLeads_29 : decode cX8_fillLeads 29 = .ok (.if_icmp .gt 73, 3) := by decide +kernel
theorem dX8_fillLeads_32 : decode cX8_fillLeads 32 = .ok (.aload_n 1, 1) := by decide +kernel
theorem dX8_fillLeads_33 : decode cX8_fillLeads 33 = .ok (.getfield 38, 3) := by decide +kernel
theorem dX8_fillLeads_36 : decode cX8_fillLeads 36 = .ok (.aload_n 2, 1) := by decide +kernel
theorem dX8_fillLeads_37 : decode cX8_fillLeads 37 = .ok (.getfield 43, 3) := by decide +kernel
theorem dX8_fillLeads_40 : decode cX8_fillLeads 40 = .ok (.iload 4, 2) := by decide +kernel
theorem dX8_fillLeads_42 : decode cX8_fillLeads 42 = .ok (.iaload, 1) := by decide +kernel
theorem dX8_fillLeads_43 : decode cX8_fillLeads 43 = .ok (.iaload, 1) := by decide +kernel
theorem dX8_fillLeads_44 : decode cX8_fillLeads 44 = .ok (.aload_n 0, 1) := by decide +kernel
theorem dX8_fillLeads_45 : decode cX8_fillLeads 45 = .ok (.getfield 9, 3) := by decide +kernel
theorem dX8_fillLeads_48 : decode cX8_fillLeads 48 = .ok (.iload 4, 2) := by decide +kernel
theorem dX8_fillLeads_50 : decode cX8_fillLeads 50 = .ok (.iconst 1, 1) := by decide +kernel
theorem dX8_fillLeads_51 : decode cX8_fillLeads 51 = .ok (.iadd, 1) := by decide +kernel
theorem dX8_fillLeads_52 : decode cX8_fillLeads 52 = .ok (.iaload, 1) := by decide +kernel
theorem dX8_fillLeads_53 : decode cX8_fillLeads 53 = .ok (.isub, 1) := by decide +kernel
theorem dX8_fillLeads_54 : decode cX8_fillLeads 54 = .ok (.istore 5, 2) := by decide +kernel
theorem dX8_fillLeads_56 : decode cX8_fillLeads 56 = .ok (.aload_n 1, 1) := by decide +kernel
theorem dX8_fillLeads_57 : decode cX8_fillLeads 57 = .ok (.getfield 38, 3) := by decide +kernel
theorem dX8_fillLeads_60 : decode cX8_fillLeads 60 = .ok (.aload_n 2, 1) := by decide +kernel
theorem dX8_fillLeads_61 : decode cX8_fillLeads 61 = .ok (.getfield 43, 3) := by decide +kernel
theorem dX8_fillLeads_64 : decode cX8_fillLeads 64 = .ok (.iload 4, 2) := by decide +kernel
theorem dX8_fillLeads_66 : decode cX8_fillLeads 66 = .ok (.iload_n 3, 1) := by decide +kernel
theorem dX8_fillLeads_67 : decode cX8_fillLeads 67 = .ok (.iadd, 1) := by decide +kernel
theorem dX8_fillLeads_68 : decode cX8_fillLeads 68 = .ok (.iconst 1, 1) := by decide +kernel
theorem dX8_fillLeads_69 : decode cX8_fillLeads 69 = .ok (.isub, 1) := by decide +kernel
theorem dX8_fillLeads_70 : decode cX8_fillLeads 70 = .ok (.iaload, 1) := by decide +kernel
theorem dX8_fillLeads_71 : decode cX8_fillLeads 71 = .ok (.iaload, 1) := by decide +kernel
theorem dX8_fillLeads_72 : decode cX8_fillLeads 72 = .ok (.aload_n 0, 1) := by decide +kernel
theorem dX8_fillLeads_73 : decode cX8_fillLeads 73 = .ok (.getfield 9, 3) := by decide +kernel
theorem dX8_fillLeads_76 : decode cX8_fillLeads 76 = .ok (.iload 4, 2) := by decide +kernel
theorem dX8_fillLeads_78 : decode cX8_fillLeads 78 = .ok (.iaload, 1) := by decide +kernel
theorem dX8_fillLeads_79 : decode cX8_fillLeads 79 = .ok (.isub, 1) := by decide +kernel
theorem dX8_fillLeads_80 : decode cX8_fillLeads 80 = .ok (.istore 6, 2) := by decide +kernel
theorem dX8_fillLeads_82 : decode cX8_fillLeads 82 = .ok (.aload_n 0, 1) := by decide +kernel
theorem dX8_fillLeads_83 : decode cX8_fillLeads 83 = .ok (.getfield 9, 3) := by decide +kernel
theorem dX8_fillLeads_86 : decode cX8_fillLeads 86 = .ok (.iload 4, 2) := by decide +kernel
theorem dX8_fillLeads_88 : decode cX8_fillLeads 88 = .ok (.iload 5, 2) := by decide +kernel
theorem dX8_fillLeads_90 : decode cX8_fillLeads 90 = .ok (.iload 6, 2) := by decide +kernel
theorem dX8_fillLeads_92 : decode cX8_fillLeads 92 = .ok (.invokestatic 32, 3) := by decide +kernel
theorem dX8_fillLeads_95 : decode cX8_fillLeads 95 = .ok (.iastore, 1) := by decide +kernel
theorem dX8_fillLeads_96 : decode cX8_fillLeads 96 = .ok (.iinc 4 1, 3) := by decide +kernel
theorem dX8_fillLeads_99 : decode cX8_fillLeads 99 = .ok (.goto (-78), 3) := by decide +kernel
theorem dX8_fillLeads_102 : decode cX8_fillLeads 102 = .ok (.iinc 3 1, 3) := by decide +kernel
theorem dX8_fillLeads_105 : decode cX8_fillLeads 105 = .ok (.goto (-95), 3) := by decide +kernel
theorem dX8_fillLeads_108 : decode cX8_fillLeads 108 = .ok (.return_, 1) := by decide +kernel
theorem dX9_init_0 : decode cX9_init 0 = .ok (.aload_n 0, 1) := by decide +kernel
theorem dX9_init_1 : decode cX9_init 1 = .ok (.invokespecial 3, 3) := by decide +kernel
theorem dX9_init_4 : decode cX9_init 4 = .ok (.aload_n 0, 1) := by decide +kernel
theorem dX9_init_5 : decode cX9_init 5 = .ok (.bipush 8, 2) := by decide +kernel
theorem dX9_init_7 : decode cX9_init 7 = .ok (.newarray .int, 2) := by decide +kernel
theorem dX9_init_9 : decode cX9_init 9 = .ok (.putfield 9, 3) := by decide +kernel
theorem dX9_init_12 : decode cX9_init 12 = .ok (.aload_n 0, 1) := by decide +kernel
theorem dX9_init_13 : decode cX9_init 13 = .ok (.iconst 0, 1) := by decide +kernel
theorem dX9_init_14 : decode cX9_init 14 = .ok (.putfield 15, 3) := by decide +kernel
theorem dX9_init_17 : decode cX9_init 17 = .ok (.return_, 1) := by decide +kernel
theorem dX9_fewest_0 : decode cX9_fewest 0 = .ok (.aload_n 0, 1) := by decide +kernel
theorem dX9_fewest_1 : decode cX9_fewest 1 = .ok (.aload_n 1, 1) := by decide +kernel
theorem dX9_fewest_2 : decode cX9_fewest 2 = .ok (.invokevirtual 19, 3) := by decide +kernel
theorem dX9_fewest_5 : decode cX9_fewest 5 = .ok (.aload_n 0, 1) := by decide +kernel
theorem dX9_fewest_6 : decode cX9_fewest 6 = .ok (.invokevirtual 23, 3) := by decide +kernel
theorem dX9_fewest_9 : decode cX9_fewest 9 = .ok (.istore_n 2, 1) := by decide +kernel
theorem dX9_fewest_10 : decode cX9_fewest 10 = .ok (.iload_n 2, 1) := by decide +kernel
theorem dX9_fewest_11 : decode cX9_fewest 11 = .ok (.ifCond .ne 5, 3) := by decide +kernel
theorem dX9_fewest_14 : decode cX9_fewest 14 = .ok (.iconst 0, 1) := by decide +kernel
theorem dX9_fewest_15 : decode cX9_fewest 15 = .ok (.ireturn, 1) := by decide +kernel
theorem dX9_fewest_16 : decode cX9_fewest 16 = .ok (.iload_n 2, 1) := by decide +kernel
theorem dX9_fewest_17 : decode cX9_fewest 17 = .ok (.istore_n 3, 1) := by decide +kernel
theorem dX9_fewest_18 : decode cX9_fewest 18 = .ok (.iload_n 3, 1) := by decide +kernel
theorem dX9_fewest_19 : decode cX9_fewest 19 = .ok (.bipush 14, 2) := by decide +kernel
theorem dX9_fewest_21 : decode cX9_fewest 21 = .ok (.if_icmp .gt 28, 3) := by decide +kernel
theorem dX9_fewest_24 : decode cX9_fewest 24 = .ok (.aload_n 0, 1) := by decide +kernel
theorem dX9_fewest_25 : decode cX9_fewest 25 = .ok (.getfield 9, 3) := by decide +kernel
theorem dX9_fewest_28 : decode cX9_fewest 28 = .ok (.aload_n 0, 1) := by decide +kernel
theorem dX9_fewest_29 : decode cX9_fewest 29 = .ok (.getfield 15, 3) := by decide +kernel
theorem dX9_fewest_32 : decode cX9_fewest 32 = .ok (.iload_n 2, 1) := by decide +kernel
theorem dX9_fewest_33 : decode cX9_fewest 33 = .ok (.iload_n 3, 1) := by decide +kernel
theorem dX9_fewest_34 : decode cX9_fewest 34 = .ok (.invokestatic 27, 3) := by decide +kernel
theorem dX9_fewest_37 : decode cX9_fewest 37 = .ok (.iconst (-1), 1) := by decide +kernel
theorem dX9_fewest_38 : decode cX9_fewest 38 = .ok (.if_icmp .eq 5, 3) := by decide +kernel
theorem dX9_fewest_41 : decode cX9_fewest 41 = .ok (.iload_n 3, 1) := by decide +kernel
theorem dX9_fewest_42 : decode cX9_fewest 42 = .ok (.ireturn, 1) := by decide +kernel
theorem dX9_fewest_43 : decode cX9_fewest 43 = .ok (.iinc 3 1, 3) := by decide +kernel
theorem dX9_fewest_46 : decode cX9_fewest 46 = .ok (.goto (-28), 3) := by decide +kernel
theorem dX9_fewest_49 : decode cX9_fewest 49 = .ok (.iconst (-1), 1) := by decide +kernel
theorem dX9_fewest_50 : decode cX9_fewest 50 = .ok (.ireturn, 1) := by decide +kernel
theorem dX9_firstTurn_0 : decode cX9_firstTurn 0 = .ok (.aload_n 0, 1) := by decide +kernel
theorem dX9_firstTurn_1 : decode cX9_firstTurn 1 = .ok (.aload_n 1, 1) := by decide +kernel
theorem dX9_firstTurn_2 : decode cX9_firstTurn 2 = .ok (.invokevirtual 31, 3) := by decide +kernel
theorem dX9_firstTurn_5 : decode cX9_firstTurn 5 = .ok (.istore_n 2, 1) := by decide +kernel
theorem dX9_firstTurn_6 : decode cX9_firstTurn 6 = .ok (.iload_n 2, 1) := by decide +kernel
theorem dX9_firstTurn_7 : decode cX9_firstTurn 7 = .ok (.ifCond .le 22, 3) := by decide +kernel
theorem dX9_firstTurn_10 : decode cX9_firstTurn 10 = .ok (.aload_n 0, 1) := by decide +kernel
theorem dX9_firstTurn_11 : decode cX9_firstTurn 11 = .ok (.getfield 9, 3) := by decide +kernel
theorem dX9_firstTurn_14 : decode cX9_firstTurn 14 = .ok (.aload_n 0, 1) := by decide +kernel
theorem dX9_firstTurn_15 : decode cX9_firstTurn 15 = .ok (.getfield 15, 3) := by decide +kernel
theorem dX9_firstTurn_18 : decode cX9_firstTurn 18 = .ok (.aload_n 0, 1) := by decide +kernel
theorem dX9_firstTurn_19 : decode cX9_firstTurn 19 = .ok (.invokevirtual 23, 3) := by decide +kernel
theorem dX9_firstTurn_22 : decode cX9_firstTurn 22 = .ok (.iload_n 2, 1) := by decide +kernel
theorem dX9_firstTurn_23 : decode cX9_firstTurn 23 = .ok (.invokestatic 27, 3) := by decide +kernel
theorem dX9_firstTurn_26 : decode cX9_firstTurn 26 = .ok (.goto 4, 3) := by decide +kernel
theorem dX9_firstTurn_29 : decode cX9_firstTurn 29 = .ok (.iconst (-1), 1) := by decide +kernel
theorem dX9_firstTurn_30 : decode cX9_firstTurn 30 = .ok (.ireturn, 1) := by decide +kernel
theorem dX9_takeRanks_0 : decode cX9_takeRanks 0 = .ok (.aload_n 0, 1) := by decide +kernel
theorem dX9_takeRanks_1 : decode cX9_takeRanks 1 = .ok (.aload_n 1, 1) := by decide +kernel
theorem dX9_takeRanks_2 : decode cX9_takeRanks 2 = .ok (.getfield 35, 3) := by decide +kernel
theorem dX9_takeRanks_5 : decode cX9_takeRanks 5 = .ok (.putfield 15, 3) := by decide +kernel
theorem dX9_takeRanks_8 : decode cX9_takeRanks 8 = .ok (.iconst 0, 1) := by decide +kernel
theorem dX9_takeRanks_9 : decode cX9_takeRanks 9 = .ok (.istore_n 2, 1) := by decide +kernel
theorem dX9_takeRanks_10 : decode cX9_takeRanks 10 = .ok (.iload_n 2, 1) := by decide +kernel
theorem dX9_takeRanks_11 : decode cX9_takeRanks 11 = .ok (.aload_n 0, 1) := by decide +kernel
theorem dX9_takeRanks_12 : decode cX9_takeRanks 12 = .ok (.getfield 15, 3) := by decide +kernel
theorem dX9_takeRanks_15 : decode cX9_takeRanks 15 = .ok (.if_icmp .ge 55, 3) := by decide +kernel
theorem dX9_takeRanks_18 : decode cX9_takeRanks 18 = .ok (.iconst 0, 1) := by decide +kernel
theorem dX9_takeRanks_19 : decode cX9_takeRanks 19 = .ok (.istore_n 3, 1) := by decide +kernel
theorem dX9_takeRanks_20 : decode cX9_takeRanks 20 = .ok (.iconst 0, 1) := by decide +kernel
theorem dX9_takeRanks_21 : decode cX9_takeRanks 21 = .ok (.istore 4, 2) := by decide +kernel
theorem dX9_takeRanks_23 : decode cX9_takeRanks 23 = .ok (.iload 4, 2) := by decide +kernel
theorem dX9_takeRanks_25 : decode cX9_takeRanks 25 = .ok (.aload_n 0, 1) := by decide +kernel
theorem dX9_takeRanks_26 : decode cX9_takeRanks 26 = .ok (.getfield 15, 3) := by decide +kernel
theorem dX9_takeRanks_29 : decode cX9_takeRanks 29 = .ok (.if_icmp .ge 28, 3) := by decide +kernel
theorem dX9_takeRanks_32 : decode cX9_takeRanks 32 = .ok (.aload_n 1, 1) := by decide +kernel
theorem dX9_takeRanks_33 : decode cX9_takeRanks 33 = .ok (.getfield 40, 3) := by decide +kernel
theorem dX9_takeRanks_36 : decode cX9_takeRanks 36 = .ok (.iload 4, 2) := by decide +kernel
theorem dX9_takeRanks_38 : decode cX9_takeRanks 38 = .ok (.iaload, 1) := by decide +kernel
theorem dX9_takeRanks_39 : decode cX9_takeRanks 39 = .ok (.aload_n 1, 1) := by decide +kernel
theorem dX9_takeRanks_40 : decode cX9_takeRanks 40 = .ok (.getfield 40, 3) := by decide +kernel
theorem dX9_takeRanks_43 : decode cX9_takeRanks 43 = .ok (.iload_n 2, 1) := by decide +kernel
theorem dX9_takeRanks_44 : decode cX9_takeRanks 44 = .ok (.iaload, 1) := by decide +kernel
theorem dX9_takeRanks_45 : decode cX9_takeRanks 45 = .ok (.if_icmp .ge 6, 3) := by decide +kernel
theorem dX9_takeRanks_48 : decode cX9_takeRanks 48 = .ok (.iinc 3 1, 3) := by decide +kernel
theorem dX9_takeRanks_51 : decode cX9_takeRanks 51 = .ok (.iinc 4 1, 3) := by decide +kernel
theorem dX9_takeRanks_54 : decode cX9_takeRanks 54 = .ok (.goto (-31), 3) := by decide +kernel
theorem dX9_takeRanks_57 : decode cX9_takeRanks 57 = .ok (.aload_n 0, 1) := by decide +kernel
theorem dX9_takeRanks_58 : decode cX9_takeRanks 58 = .ok (.getfield 9, 3) := by decide +kernel
theorem dX9_takeRanks_61 : decode cX9_takeRanks 61 = .ok (.iload_n 2, 1) := by decide +kernel
theorem dX9_takeRanks_62 : decode cX9_takeRanks 62 = .ok (.iload_n 3, 1) := by decide +kernel
theorem dX9_takeRanks_63 : decode cX9_takeRanks 63 = .ok (.iastore, 1) := by decide +kernel
theorem dX9_takeRanks_64 : decode cX9_takeRanks 64 = .ok (.iinc 2 1, 3) := by decide +kernel
theorem dX9_takeRanks_67 : decode cX9_takeRanks 67 = .ok (.goto (-57), 3) := by decide +kernel
theorem dX9_takeRanks_70 : decode cX9_takeRanks 70 = .ok (.aload_n 0, 1) := by decide +kernel
theorem dX9_takeRanks_71 : decode cX9_takeRanks 71 = .ok (.getfield 9, 3) := by decide +kernel
theorem dX9_takeRanks_74 : decode cX9_takeRanks 74 = .ok (.aload_n 0, 1) := by decide +kernel
theorem dX9_takeRanks_75 : decode cX9_takeRanks 75 = .ok (.getfield 15, 3) := by decide +kernel
theorem dX9_takeRanks_78 : decode cX9_takeRanks 78 = .ok (.aload_n 0, 1) := by decide +kernel
theorem dX9_takeRanks_79 : decode cX9_takeRanks 79 = .ok (.getfield 15, 3) := by decide +kernel
theorem dX9_takeRanks_82 : decode cX9_takeRanks 82 = .ok (.iastore, 1) := by decide +kernel
theorem dX9_takeRanks_83 : decode cX9_takeRanks 83 = .ok (.return_, 1) := by decide +kernel
theorem dX9_countGaps_0 : decode cX9_countGaps 0 = .ok (.iconst 0, 1) := by decide +kernel
theorem dX9_countGaps_1 : decode cX9_countGaps 1 = .ok (.istore_n 1, 1) := by decide +kernel
theorem dX9_countGaps_2 : decode cX9_countGaps 2 = .ok (.iconst 1, 1) := by decide +kernel
theorem dX9_countGaps_3 : decode cX9_countGaps 3 = .ok (.istore_n 2, 1) := by decide +kernel
theorem dX9_countGaps_4 : decode cX9_countGaps 4 = .ok (.iload_n 2, 1) := by decide +kernel
theorem dX9_countGaps_5 : decode cX9_countGaps 5 = .ok (.aload_n 0, 1) := by decide +kernel
theorem dX9_countGaps_6 : decode cX9_countGaps 6 = .ok (.getfield 15, 3) := by decide +kernel
theorem dX9_countGaps_9 : decode cX9_countGaps 9 = .ok (.if_icmp .gt 29, 3) := by decide +kernel
theorem dX9_countGaps_12 : decode cX9_countGaps 12 = .ok (.iload_n 1, 1) := by decide +kernel
theorem dX9_countGaps_13 : decode cX9_countGaps 13 = .ok (.aload_n 0, 1) := by decide +kernel
theorem dX9_countGaps_14 : decode cX9_countGaps 14 = .ok (.getfield 9, 3) := by decide +kernel
theorem dX9_countGaps_17 : decode cX9_countGaps 17 = .ok (.iload_n 2, 1) := by decide +kernel
theorem dX9_countGaps_18 : decode cX9_countGaps 18 = .ok (.iconst 1, 1) := by decide +kernel
theorem dX9_countGaps_19 : decode cX9_countGaps 19 = .ok (.isub, 1) := by decide +kernel
theorem dX9_countGaps_20 : decode cX9_countGaps 20 = .ok (.iaload, 1) := by decide +kernel
theorem dX9_countGaps_21 : decode cX9_countGaps 21 = .ok (.aload_n 0, 1) := by decide +kernel
theorem dX9_countGaps_22 : decode cX9_countGaps 22 = .ok (.getfield 9, 3) := by decide +kernel
theorem dX9_countGaps_25 : decode cX9_countGaps 25 = .ok (.iload_n 2, 1) := by decide +kernel
theorem dX9_countGaps_26 : decode cX9_countGaps 26 = .ok (.iaload, 1) := by decide +kernel
theorem dX9_countGaps_27 : decode cX9_countGaps 27 = .ok (.invokestatic 43, 3) := by decide +kernel
theorem dX9_countGaps_30 : decode cX9_countGaps 30 = .ok (.iadd, 1) := by decide +kernel
theorem dX9_countGaps_31 : decode cX9_countGaps 31 = .ok (.istore_n 1, 1) := by decide +kernel
theorem dX9_countGaps_32 : decode cX9_countGaps 32 = .ok (.iinc 2 1, 3) := by decide +kernel
theorem dX9_countGaps_35 : decode cX9_countGaps 35 = .ok (.goto (-31), 3) := by decide +kernel
theorem dX9_countGaps_38 : decode cX9_countGaps 38 = .ok (.iload_n 1, 1) := by decide +kernel
theorem dX9_countGaps_39 : decode cX9_countGaps 39 = .ok (.ireturn, 1) := by decide +kernel
theorem dX9_gapBetween_0 : decode cX9_gapBetween 0 = .ok (.iload_n 0, 1) := by decide +kernel
theorem dX9_gapBetween_1 : decode cX9_gapBetween 1 = .ok (.iload_n 1, 1) := by decide +kernel
theorem dX9_gapBetween_2 : decode cX9_gapBetween 2 = .ok (.isub, 1) := by decide +kernel
theorem dX9_gapBetween_3 : decode cX9_gapBetween 3 = .ok (.iconst 1, 1) := by decide +kernel
theorem dX9_gapBetween_4 : decode cX9_gapBetween 4 = .ok (.if_icmp .eq 10, 3) := by decide +kernel
theorem dX9_gapBetween_7 : decode cX9_gapBetween 7 = .ok (.iload_n 1, 1) := by decide +kernel
theorem dX9_gapBetween_8 : decode cX9_gapBetween 8 = .ok (.iload_n 0, 1) := by decide +kernel
theorem dX9_gapBetween_9 : decode cX9_gapBetween 9 = .ok (.isub, 1) := by decide +kernel
theorem dX9_gapBetween_10 : decode cX9_gapBetween 10 = .ok (.iconst 1, 1) := by decide +kernel
theorem dX9_gapBetween_11 : decode cX9_gapBetween 11 = .ok (.if_icmp .ne 7, 3) := by decide +kernel
theorem dX9_gapBetween_14 : decode cX9_gapBetween 14 = .ok (.iconst 0, 1) := by decide +kernel
theorem dX9_gapBetween_15 : decode cX9_gapBetween 15 = .ok (.goto 4, 3) := by decide +kernel
theorem dX9_gapBetween_18 : decode cX9_gapBetween 18 = .ok (.iconst 1, 1) := by decide +kernel
theorem dX9_gapBetween_19 : decode cX9_gapBetween 19 = .ok (.ireturn, 1) := by decide +kernel
theorem dX9_firstWithin_0 : decode cX9_firstWithin 0 = .ok (.iload_n 1, 1) := by decide +kernel
theorem dX9_firstWithin_1 : decode cX9_firstWithin 1 = .ok (.aload_n 0, 1) := by decide +kernel
theorem dX9_firstWithin_2 : decode cX9_firstWithin 2 = .ok (.arraylength, 1) := by decide +kernel
theorem dX9_firstWithin_3 : decode cX9_firstWithin 3 = .ok (.if_icmp .ge 13, 3) := by decide +kernel
theorem dX9_firstWithin_6 : decode cX9_firstWithin 6 = .ok (.iload_n 3, 1) := by decide +kernel
theorem dX9_firstWithin_7 : decode cX9_firstWithin 7 = .ok (.ifCond .le 9, 3) := by decide +kernel
theorem dX9_firstWithin_10 : decode cX9_firstWithin 10 = .ok (.iload_n 3, 1) := by decide +kernel
theorem dX9_firstWithin_11 : decode cX9_firstWithin 11 = .ok (.bipush 14, 2) := by decide +kernel
theorem dX9_firstWithin_13 : decode cX9_firstWithin 13 = .ok (.if_icmp .le 5, 3) := by decide +kernel
theorem dX9_firstWithin_16 : decode cX9_firstWithin 16 = .ok (.iconst (-1), 1) := by decide +kernel
theorem dX9_firstWithin_17 : decode cX9_firstWithin 17 = .ok (.ireturn, 1) := by decide +kernel
theorem dX9_firstWithin_18 : decode cX9_firstWithin 18 = .ok (.iconst 2, 1) := by decide +kernel
theorem dX9_firstWithin_19 : decode cX9_firstWithin 19 = .ok (.istore 4, 2) := by decide +kernel
theorem dX9_firstWithin_21 : decode cX9_firstWithin 21 = .ok (.iload 4, 2) := by decide +kernel
theorem dX9_firstWithin_23 : decode cX9_firstWithin 23 = .ok (.iload_n 1, 1) := by decide +kernel
theorem dX9_firstWithin_24 : decode cX9_firstWithin 24 = .ok (.if_icmp .gt 84, 3) := by decide +kernel
theorem dX9_firstWithin_27 : decode cX9_firstWithin 27 = .ok (.iload_n 2, 1) := by decide +kernel
theorem dX9_firstWithin_28 : decode cX9_firstWithin 28 = .ok (.aload_n 0, 1) := by decide +kernel
theorem dX9_firstWithin_29 : decode cX9_firstWithin 29 = .ok (.iload 4, 2) := by decide +kernel
theorem dX9_firstWithin_31 : decode cX9_firstWithin 31 = .ok (.iconst 1, 1) := by decide +kernel
theorem dX9_firstWithin_32 : decode cX9_firstWithin 32 = .ok (.isub, 1) := by decide +kernel
theorem dX9_firstWithin_33 : decode cX9_firstWithin 33 = .ok (.iaload, 1) := by decide +kernel
theorem dX9_firstWithin_34 : decode cX9_firstWithin 34 = .ok (.aload_n 0, 1) := by decide +kernel
theorem dX9_firstWithin_35 : decode cX9_firstWithin 35 = .ok (.iload 4, 2) := by decide +kernel
theorem dX9_firstWithin_37 : decode cX9_firstWithin 37 = .ok (.iaload, 1) := by decide +kernel
theorem dX9_firstWithin_38 : decode cX9_firstWithin 38 = .ok (.invokestatic 43, 3) := by decide +kernel
theorem dX9_firstWithin_41 : decode cX9_firstWithin 41 = .ok (.isub, 1) := by decide +kernel
theorem dX9_firstWithin_42 : decode cX9_firstWithin 42 = .ok (.aload_n 0, 1) := by decide +kernel
theorem dX9_firstWithin_43 : decode cX9_firstWithin 43 = .ok (.iconst 0, 1) := by decide +kernel
theorem dX9_firstWithin_44 : decode cX9_firstWithin 44 = .ok (.iaload, 1) := by decide +kernel
theorem dX9_firstWithin_45 : decode cX9_firstWithin 45 = .ok (.aload_n 0, 1) := by decide +kernel
theorem dX9_firstWithin_46 : decode cX9_firstWithin 46 = .ok (.iload 4, 2) := by decide +kernel
theorem dX9_firstWithin_48 : decode cX9_firstWithin 48 = .ok (.iaload, 1) := by decide +kernel
theorem dX9_firstWithin_49 : decode cX9_firstWithin 49 = .ok (.invokestatic 43, 3) := by decide +kernel
theorem dX9_firstWithin_52 : decode cX9_firstWithin 52 = .ok (.iadd, 1) := by decide +kernel
theorem dX9_firstWithin_53 : decode cX9_firstWithin 53 = .ok (.istore 5, 2) := by decide +kernel
theorem dX9_firstWithin_55 : decode cX9_firstWithin 55 = .ok (.iload 5, 2) := by decide +kernel
theorem dX9_firstWithin_57 : decode cX9_firstWithin 57 = .ok (.ifCond .ne 6, 3) := by decide +kernel
theorem dX9_firstWithin_60 : decode cX9_firstWithin 60 = .ok (.iload 4, 2) := by decide +kernel
theorem dX9_firstWithin_62 : decode cX9_firstWithin 62 = .ok (.ireturn, 1) := by decide +kernel
theorem dX9_firstWithin_63 : decode cX9_firstWithin 63 = .ok (.iload 5, 2) := by decide +kernel
theorem dX9_firstWithin_65 : decode cX9_firstWithin 65 = .ok (.iload_n 3, 1) := by decide +kernel
theorem dX9_firstWithin_66 : decode cX9_firstWithin 66 = .ok (.if_icmp .ge 36, 3) := by decide +kernel
theorem dX9_firstWithin_69 : decode cX9_firstWithin 69 = .ok (.aload_n 0, 1) := by decide +kernel
theorem dX9_firstWithin_70 : decode cX9_firstWithin 70 = .ok (.iload 4, 2) := by decide +kernel
theorem dX9_firstWithin_72 : decode cX9_firstWithin 72 = .ok (.invokestatic 47, 3) := by decide +kernel
theorem dX9_firstWithin_75 : decode cX9_firstWithin 75 = .ok (.aload_n 0, 1) := by decide +kernel
theorem dX9_firstWithin_76 : decode cX9_firstWithin 76 = .ok (.iload_n 1, 1) := by decide +kernel
theorem dX9_firstWithin_77 : decode cX9_firstWithin 77 = .ok (.iload 5, 2) := by decide +kernel
theorem dX9_firstWithin_79 : decode cX9_firstWithin 79 = .ok (.iload_n 3, 1) := by decide +kernel
theorem dX9_firstWithin_80 : decode cX9_firstWithin 80 = .ok (.iconst 1, 1) := by decide +kernel
theorem dX9_firstWithin_81 : decode cX9_firstWithin 81 = .ok (.isub, 1) := by decide +kernel
theorem dX9_firstWithin_82 : decode cX9_firstWithin 82 = .ok (.invokestatic 27, 3) := by decide +kernel
theorem dX9_firstWithin_85 : decode cX9_firstWithin 85 = .ok (.istore 6, 2) := by decide +kernel
theorem dX9_firstWithin_87 : decode cX9_firstWithin 87 = .ok (.aload_n 0, 1) := by decide +kernel
theorem dX9_firstWithin_88 : decode cX9_firstWithin 88 = .ok (.iload 4, 2) := by decide +kernel
theorem dX9_firstWithin_90 : decode cX9_firstWithin 90 = .ok (.invokestatic 47, 3) := by decide +kernel
theorem dX9_firstWithin_93 : decode cX9_firstWithin 93 = .ok (.iload 6, 2) := by decide +kernel
theorem dX9_firstWithin_95 : decode cX9_firstWithin 95 = .ok (.iconst (-1), 1) := by decide +kernel
theorem dX9_firstWithin_96 : decode cX9_firstWithin 96 = .ok (.if_icmp .eq 6, 3) := by decide +kernel
theorem dX9_firstWithin_99 : decode cX9_firstWithin 99 = .ok (.iload 4, 2) := by decide +kernel
theorem dX9_firstWithin_101 : decode cX9_firstWithin 101 = .ok (.ireturn, 1) := by decide +kernel
theorem dX9_firstWithin_102 : decode cX9_firstWithin 102 = .ok (.iinc 4 1, 3) := by decide +kernel
theorem dX9_firstWithin_105 : decode cX9_firstWithin 105 = .ok (.goto (-84), 3) := by decide +kernel
theorem dX9_firstWithin_108 : decode cX9_firstWithin 108 = .ok (.iconst (-1), 1) := by decide +kernel
theorem dX9_firstWithin_109 : decode cX9_firstWithin 109 = .ok (.ireturn, 1) := by decide +kernel
theorem dX9_turnRanks_0 : decode cX9_turnRanks 0 = .ok (.iconst 0, 1) := by decide +kernel
theorem dX9_turnRanks_1 : decode cX9_turnRanks 1 = .ok (.istore_n 2, 1) := by decide +kernel
theorem dX9_turnRanks_2 : decode cX9_turnRanks 2 = .ok (.iload_n 1, 1) := by decide +kernel
theorem dX9_turnRanks_3 : decode cX9_turnRanks 3 = .ok (.iconst 1, 1) := by decide +kernel
theorem dX9_turnRanks_4 : decode cX9_turnRanks 4 = .ok (.isub, 1) := by decide +kernel
theorem dX9_turnRanks_5 : decode cX9_turnRanks 5 = .ok (.istore_n 3, 1) := by decide +kernel
theorem dX9_turnRanks_6 : decode cX9_turnRanks 6 = .ok (.iload_n 2, 1) := by decide +kernel
theorem dX9_turnRanks_7 : decode cX9_turnRanks 7 = .ok (.iload_n 3, 1) := by decide +kernel
theorem dX9_turnRanks_8 : decode cX9_turnRanks 8 = .ok (.if_icmp .ge 28, 3) := by decide +kernel
theorem dX9_turnRanks_11 : decode cX9_turnRanks 11 = .ok (.aload_n 0, 1) := by decide +kernel
theorem dX9_turnRanks_12 : decode cX9_turnRanks 12 = .ok (.iload_n 2, 1) := by decide +kernel
theorem dX9_turnRanks_13 : decode cX9_turnRanks 13 = .ok (.iaload, 1) := by decide +kernel
theorem dX9_turnRanks_14 : decode cX9_turnRanks 14 = .ok (.istore 4, 2) := by decide +kernel
theorem dX9_turnRanks_16 : decode cX9_turnRanks 16 = .ok (.aload_n 0, 1) := by decide +kernel
theorem dX9_turnRanks_17 : decode cX9_turnRanks 17 = .ok (.iload_n 2, 1) := by decide +kernel
theorem dX9_turnRanks_18 : decode cX9_turnRanks 18 = .ok (.aload_n 0, 1) := by decide +kernel
theorem dX9_turnRanks_19 : decode cX9_turnRanks 19 = .ok (.iload_n 3, 1) := by decide +kernel
theorem dX9_turnRanks_20 : decode cX9_turnRanks 20 = .ok (.iaload, 1) := by decide +kernel
theorem dX9_turnRanks_21 : decode cX9_turnRanks 21 = .ok (.iastore, 1) := by decide +kernel
theorem dX9_turnRanks_22 : decode cX9_turnRanks 22 = .ok (.aload_n 0, 1) := by decide +kernel
theorem dX9_turnRanks_23 : decode cX9_turnRanks 23 = .ok (.iload_n 3, 1) := by decide +kernel
theorem dX9_turnRanks_24 : decode cX9_turnRanks 24 = .ok (.iload 4, 2) := by decide +kernel
theorem dX9_turnRanks_26 : decode cX9_turnRanks 26 = .ok (.iastore, 1) := by decide +kernel
theorem dX9_turnRanks_27 : decode cX9_turnRanks 27 = .ok (.iinc 2 1, 3) := by decide +kernel
theorem dX9_turnRanks_30 : decode cX9_turnRanks 30 = .ok (.iinc 3 (-1), 3) := by decide +kernel
theorem dX9_turnRanks_33 : decode cX9_turnRanks 33 = .ok (.goto (-27), 3) := by decide +kernel
theorem dX9_turnRanks_36 : decode cX9_turnRanks 36 = .ok (.return_, 1) := by decide +kernel
theorem dX10_init_0 : decode cX10_init 0 = .ok (.aload_n 0, 1) := by decide +kernel
theorem dX10_init_1 : decode cX10_init 1 = .ok (.invokespecial 1, 3) := by decide +kernel
theorem dX10_init_4 : decode cX10_init 4 = .ok (.aload_n 0, 1) := by decide +kernel
theorem dX10_init_5 : decode cX10_init 5 = .ok (.new 7, 3) := by decide +kernel
theorem dX10_init_8 : decode cX10_init 8 = .ok (.dup, 1) := by decide +kernel
theorem dX10_init_9 : decode cX10_init 9 = .ok (.invokespecial 9, 3) := by decide +kernel
theorem dX10_init_12 : decode cX10_init 12 = .ok (.putfield 10, 3) := by decide +kernel
theorem dX10_init_15 : decode cX10_init 15 = .ok (.aload_n 0, 1) := by decide +kernel
theorem dX10_init_16 : decode cX10_init 16 = .ok (.new 16, 3) := by decide +kernel
theorem dX10_init_19 : decode cX10_init 19 = .ok (.dup, 1) := by decide +kernel
theorem dX10_init_20 : decode cX10_init 20 = .ok (.invokespecial 18, 3) := by decide +kernel
theorem dX10_init_23 : decode cX10_init 23 = .ok (.putfield 19, 3) := by decide +kernel
theorem dX10_init_26 : decode cX10_init 26 = .ok (.aload_n 0, 1) := by decide +kernel
theorem dX10_init_27 : decode cX10_init 27 = .ok (.new 16, 3) := by decide +kernel
theorem dX10_init_30 : decode cX10_init 30 = .ok (.dup, 1) := by decide +kernel
theorem dX10_init_31 : decode cX10_init 31 = .ok (.invokespecial 18, 3) := by decide +kernel
theorem dX10_init_34 : decode cX10_init 34 = .ok (.putfield 23, 3) := by decide +kernel
theorem dX10_init_37 : decode cX10_init 37 = .ok (.aload_n 0, 1) := by decide +kernel
theorem dX10_init_38 : decode cX10_init 38 = .ok (.new 26, 3) := by decide +kernel
theorem dX10_init_41 : decode cX10_init 41 = .ok (.dup, 1) := by decide +kernel
theorem dX10_init_42 : decode cX10_init 42 = .ok (.invokespecial 28, 3) := by decide +kernel
theorem dX10_init_45 : decode cX10_init 45 = .ok (.putfield 29, 3) := by decide +kernel
theorem dX10_init_48 : decode cX10_init 48 = .ok (.aload_n 0, 1) := by decide +kernel
theorem dX10_init_49 : decode cX10_init 49 = .ok (.new 33, 3) := by decide +kernel
theorem dX10_init_52 : decode cX10_init 52 = .ok (.dup, 1) := by decide +kernel
theorem dX10_init_53 : decode cX10_init 53 = .ok (.invokespecial 35, 3) := by decide +kernel
theorem dX10_init_56 : decode cX10_init 56 = .ok (.putfield 36, 3) := by decide +kernel
theorem dX10_init_59 : decode cX10_init 59 = .ok (.aload_n 0, 1) := by decide +kernel
theorem dX10_init_60 : decode cX10_init 60 = .ok (.iconst 2, 1) := by decide +kernel
theorem dX10_init_61 : decode cX10_init 61 = .ok (.anewarray 40, 3) := by decide +kernel
theorem dX10_init_64 : decode cX10_init 64 = .ok (.dup, 1) := by decide +kernel
theorem dX10_init_65 : decode cX10_init 65 = .ok (.iconst 0, 1) := by decide +kernel
theorem dX10_init_66 : decode cX10_init 66 = .ok (.new 40, 3) := by decide +kernel
theorem dX10_init_69 : decode cX10_init 69 = .ok (.dup, 1) := by decide +kernel
theorem dX10_init_70 : decode cX10_init 70 = .ok (.invokespecial 42, 3) := by decide +kernel
theorem dX10_init_73 : decode cX10_init 73 = .ok (.aastore, 1) := by decide +kernel
theorem dX10_init_74 : decode cX10_init 74 = .ok (.dup, 1) := by decide +kernel
theorem dX10_init_75 : decode cX10_init 75 = .ok (.iconst 1, 1) := by decide +kernel
theorem dX10_init_76 : decode cX10_init 76 = .ok (.new 40, 3) := by decide +kernel
theorem dX10_init_79 : decode cX10_init 79 = .ok (.dup, 1) := by decide +kernel
theorem dX10_init_80 : decode cX10_init 80 = .ok (.invokespecial 42, 3) := by decide +kernel
theorem dX10_init_83 : decode cX10_init 83 = .ok (.aastore, 1) := by decide +kernel
theorem dX10_init_84 : decode cX10_init 84 = .ok (.putfield 43, 3) := by decide +kernel
theorem dX10_init_87 : decode cX10_init 87 = .ok (.aload_n 0, 1) := by decide +kernel
theorem dX10_init_88 : decode cX10_init 88 = .ok (.new 47, 3) := by decide +kernel
theorem dX10_init_91 : decode cX10_init 91 = .ok (.dup, 1) := by decide +kernel
theorem dX10_init_92 : decode cX10_init 92 = .ok (.invokespecial 49, 3) := by decide +kernel
theorem dX10_init_95 : decode cX10_init 95 = .ok (.putfield 50, 3) := by decide +kernel
theorem dX10_init_98 : decode cX10_init 98 = .ok (.aload_n 0, 1) := by decide +kernel
theorem dX10_init_99 : decode cX10_init 99 = .ok (.new 54, 3) := by decide +kernel
theorem dX10_init_102 : decode cX10_init 102 = .ok (.dup, 1) := by decide +kernel
theorem dX10_init_103 : decode cX10_init 103 = .ok (.invokespecial 56, 3) := by decide +kernel
theorem dX10_init_106 : decode cX10_init 106 = .ok (.putfield 57, 3) := by decide +kernel
theorem dX10_init_109 : decode cX10_init 109 = .ok (.aload_n 0, 1) := by decide +kernel
theorem dX10_init_110 : decode cX10_init 110 = .ok (.new 61, 3) := by decide +kernel
theorem dX10_init_113 : decode cX10_init 113 = .ok (.dup, 1) := by decide +kernel
theorem dX10_init_114 : decode cX10_init 114 = .ok (.invokespecial 63, 3) := by decide +kernel
theorem dX10_init_117 : decode cX10_init 117 = .ok (.putfield 64, 3) := by decide +kernel
theorem dX10_init_120 : decode cX10_init 120 = .ok (.aload_n 0, 1) := by decide +kernel
theorem dX10_init_121 : decode cX10_init 121 = .ok (.new 68, 3) := by decide +kernel
theorem dX10_init_124 : decode cX10_init 124 = .ok (.dup, 1) := by decide +kernel
theorem dX10_init_125 : decode cX10_init 125 = .ok (.invokespecial 70, 3) := by decide +kernel
theorem dX10_init_128 : decode cX10_init 128 = .ok (.putfield 71, 3) := by decide +kernel
theorem dX10_init_131 : decode cX10_init 131 = .ok (.aload_n 0, 1) := by decide +kernel
theorem dX10_init_132 : decode cX10_init 132 = .ok (.new 75, 3) := by decide +kernel
theorem dX10_init_135 : decode cX10_init 135 = .ok (.dup, 1) := by decide +kernel
theorem dX10_init_136 : decode cX10_init 136 = .ok (.invokespecial 77, 3) := by decide +kernel
theorem dX10_init_139 : decode cX10_init 139 = .ok (.putfield 78, 3) := by decide +kernel
theorem dX10_init_142 : decode cX10_init 142 = .ok (.aload_n 0, 1) := by decide +kernel
theorem dX10_init_143 : decode cX10_init 143 = .ok (.iconst 0, 1) := by decide +kernel
theorem dX10_init_144 : decode cX10_init 144 = .ok (.putfield 82, 3) := by decide +kernel
theorem dX10_init_147 : decode cX10_init 147 = .ok (.return_, 1) := by decide +kernel
theorem dX10_feed_0 : decode cX10_feed 0 = .ok (.iload_n 1, 1) := by decide +kernel
theorem dX10_feed_1 : decode cX10_feed 1 = .ok (.ifCond .lt 10, 3) := by decide +kernel
theorem dX10_feed_4 : decode cX10_feed 4 = .ok (.iload_n 1, 1) := by decide +kernel
theorem dX10_feed_5 : decode cX10_feed 5 = .ok (.sipush 255, 3) := by decide +kernel
theorem dX10_feed_8 : decode cX10_feed 8 = .ok (.if_icmp .le 6, 3) := by decide +kernel
theorem dX10_feed_11 : decode cX10_feed 11 = .ok (.ldc 86, 2) := by decide +kernel
theorem dX10_feed_13 : decode cX10_feed 13 = .ok (.ireturn, 1) := by decide +kernel
theorem dX10_feed_14 : decode cX10_feed 14 = .ok (.aload_n 0, 1) := by decide +kernel
theorem dX10_feed_15 : decode cX10_feed 15 = .ok (.getfield 10, 3) := by decide +kernel
theorem dX10_feed_18 : decode cX10_feed 18 = .ok (.getfield 87, 3) := by decide +kernel
theorem dX10_feed_21 : decode cX10_feed 21 = .ok (.sipush 240, 3) := by decide +kernel
theorem dX10_feed_24 : decode cX10_feed 24 = .ok (.if_icmp .lt 6, 3) := by decide +kernel
theorem dX10_feed_27 : decode cX10_feed 27 = .ok (.ldc 90, 2) := by decide +kernel
theorem dX10_feed_29 : decode cX10_feed 29 = .ok (.ireturn, 1) := by decide +kernel
theorem dX10_feed_30 : decode cX10_feed 30 = .ok (.aload_n 0, 1) := by decide +kernel
theorem dX10_feed_31 : decode cX10_feed 31 = .ok (.getfield 10, 3) := by decide +kernel
theorem dX10_feed_34 : decode cX10_feed 34 = .ok (.getfield 91, 3) := by decide +kernel
theorem dX10_feed_37 : decode cX10_feed 37 = .ok (.aload_n 0, 1) := by decide +kernel
theorem dX10_feed_38 : decode cX10_feed 38 = .ok (.getfield 10, 3) := by decide +kernel
theorem dX10_feed_41 : decode cX10_feed 41 = .ok (.getfield 87, 3) := by decide +kernel
theorem dX10_feed_44 : decode cX10_feed 44 = .ok (.iload_n 1, 1) := by decide +kernel
theorem dX10_feed_45 : decode cX10_feed 45 = .ok (.iastore, 1) := by decide +kernel
theorem dX10_feed_46 : decode cX10_feed 46 = .ok (.aload_n 0, 1) := by decide +kernel
theorem dX10_feed_47 : decode cX10_feed 47 = .ok (.getfield 10, 3) := by decide +kernel
theorem dX10_feed_50 : decode cX10_feed 50 = .ok (.dup, 1) := by decide +kernel
theorem dX10_feed_51 : decode cX10_feed 51 = .ok (.getfield 87, 3) := by decide +kernel
theorem dX10_feed_54 : decode cX10_feed 54 = .ok (.iconst 1, 1) := by decide +kernel
theorem dX10_feed_55 : decode cX10_feed 55 = .ok (.iadd, 1) := by decide +kernel
theorem dX10_feed_56 : decode cX10_feed 56 = .ok (.putfield 87, 3) := by decide +kernel
theorem dX10_feed_59 : decode cX10_feed 59 = .ok (.aload_n 0, 1) := by decide +kernel
theorem dX10_feed_60 : decode cX10_feed 60 = .ok (.getfield 10, 3) := by decide +kernel
theorem dX10_feed_63 : decode cX10_feed 63 = .ok (.getfield 87, 3) := by decide +kernel
theorem dX10_feed_66 : decode cX10_feed 66 = .ok (.ireturn, 1) := by decide +kernel
theorem dX10_cord_0 : decode cX10_cord 0 = .ok (.aload_n 0, 1) := by decide +kernel
theorem dX10_cord_1 : decode cX10_cord 1 = .ok (.getfield 10, 3) := by decide +kernel
theorem dX10_cord_4 : decode cX10_cord 4 = .ok (.aload_n 0, 1) := by decide +kernel
theorem dX10_cord_5 : decode cX10_cord 5 = .ok (.getfield 19, 3) := by decide +kernel
theorem dX10_cord_8 : decode cX10_cord 8 = .ok (.invokevirtual 95, 3) := by decide +kernel
theorem dX10_cord_11 : decode cX10_cord 11 = .ok (.aload_n 0, 1) := by decide +kernel
theorem dX10_cord_12 : decode cX10_cord 12 = .ok (.getfield 10, 3) := by decide +kernel
theorem dX10_cord_15 : decode cX10_cord 15 = .ok (.iconst 0, 1) := by decide +kernel
theorem dX10_cord_16 : decode cX10_cord 16 = .ok (.putfield 87, 3) := by decide +kernel
theorem dX10_cord_19 : decode cX10_cord 19 = .ok (.aload_n 0, 1) := by decide +kernel
theorem dX10_cord_20 : decode cX10_cord 20 = .ok (.getfield 10, 3) := by decide +kernel
theorem dX10_cord_23 : decode cX10_cord 23 = .ok (.getfield 99, 3) := by decide +kernel
theorem dX10_cord_26 : decode cX10_cord 26 = .ok (.ifCond .eq 14, 3) := by decide +kernel
theorem dX10_cord_29 : decode cX10_cord 29 = .ok (.bipush (-10), 2) := by decide +kernel
theorem dX10_cord_31 : decode cX10_cord 31 = .ok (.aload_n 0, 1) := by decide +kernel
theorem dX10_cord_32 : decode cX10_cord 32 = .ok (.getfield 10, 3) := by decide +kernel
theorem dX10_cord_35 : decode cX10_cord 35 = .ok (.getfield 99, 3) := by decide +kernel
theorem dX10_cord_38 : decode cX10_cord 38 = .ok (.isub, 1) := by decide +kernel
theorem dX10_cord_39 : decode cX10_cord 39 = .ok (.ireturn, 1) := by decide +kernel
theorem dX10_cord_40 : decode cX10_cord 40 = .ok (.aload_n 0, 1) := by decide +kernel
theorem dX10_cord_41 : decode cX10_cord 41 = .ok (.getfield 23, 3) := by decide +kernel
theorem dX10_cord_44 : decode cX10_cord 44 = .ok (.aload_n 0, 1) := by decide +kernel
theorem dX10_cord_45 : decode cX10_cord 45 = .ok (.getfield 19, 3) := by decide +kernel
theorem dX10_cord_48 : decode cX10_cord 48 = .ok (.invokevirtual 102, 3) := by decide +kernel
theorem dX10_cord_51 : decode cX10_cord 51 = .ok (.aload_n 0, 1) := by decide +kernel
theorem dX10_cord_52 : decode cX10_cord 52 = .ok (.getfield 29, 3) := by decide +kernel
theorem dX10_cord_55 : decode cX10_cord 55 = .ok (.aload_n 0, 1) := by decide +kernel
theorem dX10_cord_56 : decode cX10_cord 56 = .ok (.getfield 23, 3) := by decide +kernel
theorem dX10_cord_59 : decode cX10_cord 59 = .ok (.invokevirtual 105, 3) := by decide +kernel
theorem dX10_cord_62 : decode cX10_cord 62 = .ok (.aload_n 0, 1) := by decide +kernel
theorem dX10_cord_63 : decode cX10_cord 63 = .ok (.getfield 36, 3) := by decide +kernel
theorem dX10_cord_66 : decode cX10_cord 66 = .ok (.invokevirtual 108, 3) := by decide +kernel
theorem dX10_cord_69 : decode cX10_cord 69 = .ok (.aload_n 0, 1) := by decide +kernel
theorem dX10_cord_70 : decode cX10_cord 70 = .ok (.getfield 71, 3) := by decide +kernel
theorem dX10_cord_73 : decode cX10_cord 73 = .ok (.iconst 0, 1) := by decide +kernel
theorem dX10_cord_74 : decode cX10_cord 74 = .ok (.putfield 111, 3) := by decide +kernel
theorem dX10_cord_77 : decode cX10_cord 77 = .ok (.aload_n 0, 1) := by decide +kernel
theorem dX10_cord_78 : decode cX10_cord 78 = .ok (.getfield 78, 3) := by decide +kernel
theorem dX10_cord_81 : decode cX10_cord 81 = .ok (.iconst 0, 1) := by decide +kernel
theorem dX10_cord_82 : decode cX10_cord 82 = .ok (.putfield 114, 3) := by decide +kernel
theorem dX10_cord_85 : decode cX10_cord 85 = .ok (.iconst 0, 1) := by decide +kernel
theorem dX10_cord_86 : decode cX10_cord 86 = .ok (.istore_n 1, 1) := by decide +kernel
theorem dX10_cord_87 : decode cX10_cord 87 = .ok (.iload_n 1, 1) := by decide +kernel
theorem dX10_cord_88 : decode cX10_cord 88 = .ok (.iconst 2, 1) := by decide +kernel
theorem dX10_cord_89 : decode cX10_cord 89 = .ok (.if_icmp .ge 19, 3) := by decide +kernel
theorem dX10_cord_92 : decode cX10_cord 92 = .ok (.aload_n 0, 1) := by decide +kernel
theorem dX10_cord_93 : decode cX10_cord 93 = .ok (.getfield 43, 3) := by decide +kernel
theorem dX10_cord_96 : decode cX10_cord 96 = .ok (.iload_n 1, 1) := by decide +kernel
theorem dX10_cord_97 : decode cX10_cord 97 = .ok (.aaload, 1) := by decide +kernel
theorem dX10_cord_98 : decode cX10_cord 98 = .ok (.iconst 0, 1) := by decide +kernel
theorem dX10_cord_99 : decode cX10_cord 99 = .ok (.putfield 115, 3) := by decide +kernel
theorem dX10_cord_102 : decode cX10_cord 102 = .ok (.iinc 1 1, 3) := by decide +kernel
theorem dX10_cord_105 : decode cX10_cord 105 = .ok (.goto (-18), 3) := by decide +kernel
theorem dX10_cord_108 : decode cX10_cord 108 = .ok (.aload_n 0, 1) := by decide +kernel
theorem dX10_cord_109 : decode cX10_cord 109 = .ok (.getfield 23, 3) := by decide +kernel
theorem dX10_cord_112 : decode cX10_cord 112 = .ok (.getfield 119, 3) := by decide +kernel
theorem dX10_cord_115 : decode cX10_cord 115 = .ok (.ireturn, 1) := by decide +kernel
theorem dX10_fault_0 : decode cX10_fault 0 = .ok (.aload_n 0, 1) := by decide +kernel
theorem dX10_fault_1 : decode cX10_fault 1 = .ok (.getfield 10, 3) := by decide +kernel
theorem dX10_fault_4 : decode cX10_fault 4 = .ok (.getfield 122, 3) := by decide +kernel
theorem dX10_fault_7 : decode cX10_fault 7 = .ok (.ireturn, 1) := by decide +kernel
theorem dX10_told_0 : decode cX10_told 0 = .ok (.iload_n 1, 1) := by decide +kernel
theorem dX10_told_1 : decode cX10_told 1 = .ok (.tableswitch 309 0 19 #[95, 111, 119, 127, 135, 143, 151, 159, 167, 175, 187, 195, 221, 229, 237, 253, 269, 285, 293, 301], 95) := by decide +kernel
theorem dX10_told_96 : decode cX10_told 96 = .ok (.aload_n 0, 1) := by decide +kernel
theorem dX10_told_97 : decode cX10_told 97 = .ok (.getfield 23, 3) := by decide +kernel
theorem dX10_told_100 : decode cX10_told 100 = .ok (.getfield 125, 3) := by decide +kernel
theorem dX10_told_103 : decode cX10_told 103 = .ok (.ifCond .eq 7, 3) := by decide +kernel
theorem dX10_told_106 : decode cX10_told 106 = .ok (.iconst 1, 1) := by decide +kernel
theorem dX10_told_107 : decode cX10_told 107 = .ok (.goto 4, 3) := by decide +kernel
theorem dX10_told_110 : decode cX10_told 110 = .ok (.iconst 0, 1) := by decide +kernel
theorem dX10_told_111 : decode cX10_told 111 = .ok (.ireturn, 1) := by decide +kernel
theorem dX10_told_112 : decode cX10_told 112 = .ok (.aload_n 0, 1) := by decide +kernel
theorem dX10_told_113 : decode cX10_told 113 = .ok (.getfield 23, 3) := by decide +kernel
theorem dX10_told_116 : decode cX10_told 116 = .ok (.getfield 119, 3) := by decide +kernel
theorem dX10_told_119 : decode cX10_told 119 = .ok (.ireturn, 1) := by decide +kernel
theorem dX10_told_120 : decode cX10_told 120 = .ok (.aload_n 0, 1) := by decide +kernel
theorem dX10_told_121 : decode cX10_told 121 = .ok (.getfield 23, 3) := by decide +kernel
theorem dX10_told_124 : decode cX10_told 124 = .ok (.getfield 128, 3) := by decide +kernel
theorem dX10_told_127 : decode cX10_told 127 = .ok (.ireturn, 1) := by decide +kernel
theorem dX10_told_128 : decode cX10_told 128 = .ok (.aload_n 0, 1) := by decide +kernel
theorem dX10_told_129 : decode cX10_told 129 = .ok (.getfield 23, 3) := by decide +kernel
theorem dX10_told_132 : decode cX10_told 132 = .ok (.getfield 131, 3) := by decide +kernel
theorem dX10_told_135 : decode cX10_told 135 = .ok (.ireturn, 1) := by decide +kernel
theorem dX10_told_136 : decode cX10_told 136 = .ok (.aload_n 0, 1) := by decide +kernel
theorem dX10_told_137 : decode cX10_told 137 = .ok (.getfield 10, 3) := by decide +kernel
theorem dX10_told_140 : decode cX10_told 140 = .ok (.getfield 87, 3) := by decide +kernel
theorem dX10_told_143 : decode cX10_told 143 = .ok (.ireturn, 1) := by decide +kernel
theorem dX10_told_144 : decode cX10_told 144 = .ok (.aload_n 0, 1) := by decide +kernel
theorem dX10_told_145 : decode cX10_told 145 = .ok (.getfield 29, 3) := by decide +kernel
theorem dX10_told_148 : decode cX10_told 148 = .ok (.getfield 134, 3) := by decide +kernel
theorem dX10_told_151 : decode cX10_told 151 = .ok (.ireturn, 1) := by decide +kernel
theorem dX10_told_152 : decode cX10_told 152 = .ok (.aload_n 0, 1) := by decide +kernel
theorem dX10_told_153 : decode cX10_told 153 = .ok (.getfield 29, 3) := by decide +kernel
theorem dX10_told_156 : decode cX10_told 156 = .ok (.getfield 137, 3) := by decide +kernel
theorem dX10_told_159 : decode cX10_told 159 = .ok (.ireturn, 1) := by decide +kernel
theorem dX10_told_160 : decode cX10_told 160 = .ok (.aload_n 0, 1) := by decide +kernel
theorem dX10_told_161 : decode cX10_told 161 = .ok (.getfield 29, 3) := by decide +kernel
theorem dX10_told_164 : decode cX10_told 164 = .ok (.getfield 140, 3) := by decide +kernel
theorem dX10_told_167 : decode cX10_told 167 = .ok (.ireturn, 1) := by decide +kernel
theorem dX10_told_168 : decode cX10_told 168 = .ok (.aload_n 0, 1) := by decide +kernel
theorem dX10_told_169 : decode cX10_told 169 = .ok (.getfield 29, 3) := by decide +kernel
theorem dX10_told_172 : decode cX10_told 172 = .ok (.invokevirtual 141, 3) := by decide +kernel
theorem dX10_told_175 : decode cX10_told 175 = .ok (.ireturn, 1) := by decide +kernel
theorem dX10_told_176 : decode cX10_told 176 = .ok (.aload_n 0, 1) := by decide +kernel
theorem dX10_told_177 : decode cX10_told 177 = .ok (.getfield 29, 3) := by decide +kernel
theorem dX10_told_180 : decode cX10_told 180 = .ok (.aload_n 0, 1) := by decide +kernel
theorem dX10_told_181 : decode cX10_told 181 = .ok (.getfield 23, 3) := by decide +kernel
theorem dX10_told_184 : decode cX10_told 184 = .ok (.invokevirtual 145, 3) := by decide +kernel
theorem dX10_told_187 : decode cX10_told 187 = .ok (.ireturn, 1) := by decide +kernel
theorem dX10_told_188 : decode cX10_told 188 = .ok (.aload_n 0, 1) := by decide +kernel
theorem dX10_told_189 : decode cX10_told 189 = .ok (.getfield 29, 3) := by decide +kernel
theorem dX10_told_192 : decode cX10_told 192 = .ok (.getfield 149, 3) := by decide +kernel
theorem dX10_told_195 : decode cX10_told 195 = .ok (.ireturn, 1) := by decide +kernel
theorem dX10_told_196 : decode cX10_told 196 = .ok (.aload_n 0, 1) := by decide +kernel
theorem dX10_told_197 : decode cX10_told 197 = .ok (.getfield 23, 3) := by decide +kernel
theorem dX10_told_200 : decode cX10_told 200 = .ok (.getfield 125, 3) := by decide +kernel
theorem dX10_told_203 : decode cX10_told 203 = .ok (.ifCond .eq 17, 3) := by decide +kernel
theorem dX10_told_206 : decode cX10_told 206 = .ok (.aload_n 0, 1) := by decide +kernel
theorem dX10_told_207 : decode cX10_told 207 = .ok (.getfield 29, 3) := by decide +kernel
theorem dX10_told_210 : decode cX10_told 210 = .ok (.invokevirtual 152, 3) := by decide +kernel
theorem dX10_told_213 : decode cX10_told 213 = .ok (.ifCond .eq 7, 3) := by decide +kernel
theorem dX10_told_216 : decode cX10_told 216 = .ok (.iconst 1, 1) := by decide +kernel
theorem dX10_told_217 : decode cX10_told 217 = .ok (.goto 4, 3) := by decide +kernel
theorem dX10_told_220 : decode cX10_told 220 = .ok (.iconst 0, 1) := by decide +kernel
theorem dX10_told_221 : decode cX10_told 221 = .ok (.ireturn, 1) := by decide +kernel
theorem dX10_told_222 : decode cX10_told 222 = .ok (.aload_n 0, 1) := by decide +kernel
theorem dX10_told_223 : decode cX10_told 223 = .ok (.getfield 29, 3) := by decide +kernel
theorem dX10_told_226 : decode cX10_told 226 = .ok (.invokevirtual 156, 3) := by decide +kernel
theorem dX10_told_229 : decode cX10_told 229 = .ok (.ireturn, 1) := by decide +kernel
theorem dX10_told_230 : decode cX10_told 230 = .ok (.aload_n 0, 1) := by decide +kernel
theorem dX10_told_231 : decode cX10_told 231 = .ok (.getfield 29, 3) := by decide +kernel
theorem dX10_told_234 : decode cX10_told 234 = .ok (.invokevirtual 159, 3) := by decide +kernel
theorem dX10_told_237 : decode cX10_told 237 = .ok (.ireturn, 1) := by decide +kernel
theorem dX10_told_238 : decode cX10_told 238 = .ok (.aload_n 0, 1) := by decide +kernel
theorem dX10_told_239 : decode cX10_told 239 = .ok (.getfield 57, 3) := by decide +kernel
theorem dX10_told_242 : decode cX10_told 242 = .ok (.aload_n 0, 1) := by decide +kernel
theorem dX10_told_243 : decode cX10_told 243 = .ok (.getfield 23, 3) := by decide +kernel
theorem dX10_told_246 : decode cX10_told 246 = .ok (.aload_n 0, 1) := by decide +kernel
theorem dX10_told_247 : decode cX10_told 247 = .ok (.getfield 29, 3) := by decide +kernel
theorem dX10_told_250 : decode cX10_told 250 = .ok (.invokevirtual 162, 3) := by decide +kernel
theorem dX10_told_253 : decode cX10_told 253 = .ok (.ireturn, 1) := by decide +kernel
theorem dX10_told_254 : decode cX10_told 254 = .ok (.aload_n 0, 1) := by decide +kernel
theorem dX10_told_255 : decode cX10_told 255 = .ok (.getfield 57, 3) := by decide +kernel
theorem dX10_told_258 : decode cX10_told 258 = .ok (.aload_n 0, 1) := by decide +kernel
theorem dX10_told_259 : decode cX10_told 259 = .ok (.getfield 23, 3) := by decide +kernel
theorem dX10_told_262 : decode cX10_told 262 = .ok (.aload_n 0, 1) := by decide +kernel
theorem dX10_told_263 : decode cX10_told 263 = .ok (.getfield 29, 3) := by decide +kernel
theorem dX10_told_266 : decode cX10_told 266 = .ok (.invokevirtual 166, 3) := by decide +kernel
theorem dX10_told_269 : decode cX10_told 269 = .ok (.ireturn, 1) := by decide +kernel
theorem dX10_told_270 : decode cX10_told 270 = .ok (.aload_n 0, 1) := by decide +kernel
theorem dX10_told_271 : decode cX10_told 271 = .ok (.getfield 57, 3) := by decide +kernel
theorem dX10_told_274 : decode cX10_told 274 = .ok (.aload_n 0, 1) := by decide +kernel
theorem dX10_told_275 : decode cX10_told 275 = .ok (.getfield 23, 3) := by decide +kernel
theorem dX10_told_278 : decode cX10_told 278 = .ok (.aload_n 0, 1) := by decide +kernel
theorem dX10_told_279 : decode cX10_told 279 = .ok (.getfield 29, 3) := by decide +kernel
theorem dX10_told_282 : decode cX10_told 282 = .ok (.invokevirtual 169, 3) := by decide +kernel
theorem dX10_told_285 : decode cX10_told 285 = .ok (.ireturn, 1) := by decide +kernel
theorem dX10_told_286 : decode cX10_told 286 = .ok (.aload_n 0, 1) := by decide +kernel
theorem dX10_told_287 : decode cX10_told 287 = .ok (.getfield 71, 3) := by decide +kernel
theorem dX10_told_290 : decode cX10_told 290 = .ok (.getfield 111, 3) := by decide +kernel
theorem dX10_told_293 : decode cX10_told 293 = .ok (.ireturn, 1) := by decide +kernel
theorem dX10_told_294 : decode cX10_told 294 = .ok (.aload_n 0, 1) := by decide +kernel
theorem dX10_told_295 : decode cX10_told 295 = .ok (.getfield 78, 3) := by decide +kernel
theorem dX10_told_298 : decode cX10_told 298 = .ok (.getfield 114, 3) := by decide +kernel
theorem dX10_told_301 : decode cX10_told 301 = .ok (.ireturn, 1) := by decide +kernel
theorem dX10_told_302 : decode cX10_told 302 = .ok (.aload_n 0, 1) := by decide +kernel
theorem dX10_told_303 : decode cX10_told 303 = .ok (.getfield 36, 3) := by decide +kernel
theorem dX10_told_306 : decode cX10_told 306 = .ok (.getfield 172, 3) := by decide +kernel
theorem dX10_told_309 : decode cX10_told 309 = .ok (.ireturn, 1) := by decide +kernel
theorem dX10_told_310 : decode cX10_told 310 = .ok (.ldc 86, 2) := by decide +kernel
theorem dX10_told_312 : decode cX10_told 312 = .ok (.ireturn, 1) := by decide +kernel
theorem dX10_flag_0 : decode cX10_flag 0 = .ok (.aload_n 0, 1) := by decide +kernel
theorem dX10_flag_1 : decode cX10_flag 1 = .ok (.getfield 23, 3) := by decide +kernel
theorem dX10_flag_4 : decode cX10_flag 4 = .ok (.iload_n 1, 1) := by decide +kernel
theorem dX10_flag_5 : decode cX10_flag 5 = .ok (.invokevirtual 173, 3) := by decide +kernel
theorem dX10_flag_8 : decode cX10_flag 8 = .ok (.ifCond .ne 6, 3) := by decide +kernel
theorem dX10_flag_11 : decode cX10_flag 11 = .ok (.ldc 177, 2) := by decide +kernel
theorem dX10_flag_13 : decode cX10_flag 13 = .ok (.ireturn, 1) := by decide +kernel
theorem dX10_flag_14 : decode cX10_flag 14 = .ok (.iload_n 2, 1) := by decide +kernel
theorem dX10_flag_15 : decode cX10_flag 15 = .ok (.tableswitch 82 0 4 #[33, 43, 53, 62, 72], 33) := by decide +kernel
theorem dX10_flag_48 : decode cX10_flag 48 = .ok (.aload_n 0, 1) := by decide +kernel
theorem dX10_flag_49 : decode cX10_flag 49 = .ok (.getfield 23, 3) := by decide +kernel
theorem dX10_flag_52 : decode cX10_flag 52 = .ok (.getfield 178, 3) := by decide +kernel
theorem dX10_flag_55 : decode cX10_flag 55 = .ok (.iload_n 1, 1) := by decide +kernel
theorem dX10_flag_56 : decode cX10_flag 56 = .ok (.iaload, 1) := by decide +kernel
theorem dX10_flag_57 : decode cX10_flag 57 = .ok (.ireturn, 1) := by decide +kernel
theorem dX10_flag_58 : decode cX10_flag 58 = .ok (.aload_n 0, 1) := by decide +kernel
theorem dX10_flag_59 : decode cX10_flag 59 = .ok (.getfield 23, 3) := by decide +kernel
theorem dX10_flag_62 : decode cX10_flag 62 = .ok (.getfield 181, 3) := by decide +kernel
theorem dX10_flag_65 : decode cX10_flag 65 = .ok (.iload_n 1, 1) := by decide +kernel
theorem dX10_flag_66 : decode cX10_flag 66 = .ok (.iaload, 1) := by decide +kernel
theorem dX10_flag_67 : decode cX10_flag 67 = .ok (.ireturn, 1) := by decide +kernel
theorem dX10_flag_68 : decode cX10_flag 68 = .ok (.aload_n 0, 1) := by decide +kernel
theorem dX10_flag_69 : decode cX10_flag 69 = .ok (.getfield 29, 3) := by decide +kernel
theorem dX10_flag_72 : decode cX10_flag 72 = .ok (.iload_n 1, 1) := by decide +kernel
theorem dX10_flag_73 : decode cX10_flag 73 = .ok (.invokevirtual 184, 3) := by decide +kernel
theorem dX10_flag_76 : decode cX10_flag 76 = .ok (.ireturn, 1) := by decide +kernel
theorem dX10_flag_77 : decode cX10_flag 77 = .ok (.aload_n 0, 1) := by decide +kernel
theorem dX10_flag_78 : decode cX10_flag 78 = .ok (.getfield 29, 3) := by decide +kernel
theorem dX10_flag_81 : decode cX10_flag 81 = .ok (.getfield 188, 3) := by decide +kernel
theorem dX10_flag_84 : decode cX10_flag 84 = .ok (.iload_n 1, 1) := by decide +kernel
theorem dX10_flag_85 : decode cX10_flag 85 = .ok (.iaload, 1) := by decide +kernel
theorem dX10_flag_86 : decode cX10_flag 86 = .ok (.ireturn, 1) := by decide +kernel
theorem dX10_flag_87 : decode cX10_flag 87 = .ok (.aload_n 0, 1) := by decide +kernel
theorem dX10_flag_88 : decode cX10_flag 88 = .ok (.getfield 29, 3) := by decide +kernel
theorem dX10_flag_91 : decode cX10_flag 91 = .ok (.getfield 191, 3) := by decide +kernel
theorem dX10_flag_94 : decode cX10_flag 94 = .ok (.iload_n 1, 1) := by decide +kernel
theorem dX10_flag_95 : decode cX10_flag 95 = .ok (.iaload, 1) := by decide +kernel
theorem dX10_flag_96 : decode cX10_flag 96 = .ok (.ireturn, 1) := by decide +kernel
theorem dX10_flag_97 : decode cX10_flag 97 = .ok (.ldc 86, 2) := by decide +kernel
theorem dX10_flag_99 : decode cX10_flag 99 = .ok (.ireturn, 1) := by decide +kernel
theorem dX10_at_0 : decode cX10_at 0 = .ok (.iload_n 1, 1) := by decide +kernel
theorem dX10_at_1 : decode cX10_at 1 = .ok (.ifCond .lt 9, 3) := by decide +kernel
theorem dX10_at_4 : decode cX10_at 4 = .ok (.iload_n 1, 1) := by decide +kernel
theorem dX10_at_5 : decode cX10_at 5 = .ok (.bipush 6, 2) := by decide +kernel
theorem dX10_at_7 : decode cX10_at 7 = .ok (.if_icmp .le 6, 3) := by decide +kernel
theorem dX10_at_10 : decode cX10_at 10 = .ok (.ldc 86, 2) := by decide +kernel
theorem dX10_at_12 : decode cX10_at 12 = .ok (.ireturn, 1) := by decide +kernel
theorem dX10_at_13 : decode cX10_at 13 = .ok (.aload_n 0, 1) := by decide +kernel
theorem dX10_at_14 : decode cX10_at 14 = .ok (.getfield 29, 3) := by decide +kernel
theorem dX10_at_17 : decode cX10_at 17 = .ok (.iload_n 1, 1) := by decide +kernel
theorem dX10_at_18 : decode cX10_at 18 = .ok (.invokevirtual 194, 3) := by decide +kernel
theorem dX10_at_21 : decode cX10_at 21 = .ok (.ireturn, 1) := by decide +kernel
theorem dX10_hook_0 : decode cX10_hook 0 = .ok (.iload_n 1, 1) := by decide +kernel
theorem dX10_hook_1 : decode cX10_hook 1 = .ok (.ifCond .lt 14, 3) := by decide +kernel
theorem dX10_hook_4 : decode cX10_hook 4 = .ok (.iload_n 1, 1) := by decide +kernel
theorem dX10_hook_5 : decode cX10_hook 5 = .ok (.aload_n 0, 1) := by decide +kernel
theorem dX10_hook_6 : decode cX10_hook 6 = .ok (.getfield 23, 3) := by decide +kernel
theorem dX10_hook_9 : decode cX10_hook 9 = .ok (.getfield 131, 3) := by decide +kernel
theorem dX10_hook_12 : decode cX10_hook 12 = .ok (.if_icmp .lt 6, 3) := by decide +kernel
theorem dX10_hook_15 : decode cX10_hook 15 = .ok (.ldc 177, 2) := by decide +kernel
theorem dX10_hook_17 : decode cX10_hook 17 = .ok (.ireturn, 1) := by decide +kernel
theorem dX10_hook_18 : decode cX10_hook 18 = .ok (.iload_n 2, 1) := by decide +kernel
theorem dX10_hook_19 : decode cX10_hook 19 = .ok (.tableswitch 61 0 2 #[25, 35, 45], 25) := by decide +kernel
theorem dX10_hook_44 : decode cX10_hook 44 = .ok (.aload_n 0, 1) := by decide +kernel
