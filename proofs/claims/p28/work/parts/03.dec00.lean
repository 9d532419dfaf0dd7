theorem dX0_init_0 : decode cX0_init 0 = .ok (.aload_n 0, 1) := by decide +kernel
theorem dX0_init_1 : decode cX0_init 1 = .ok (.invokespecial 3, 3) := by decide +kernel
theorem dX0_init_4 : decode cX0_init 4 = .ok (.aload_n 0, 1) := by decide +kernel
theorem dX0_init_5 : decode cX0_init 5 = .ok (.bipush 20, 2) := by decide +kernel
theorem dX0_init_7 : decode cX0_init 7 = .ok (.putfield 9, 3) := by decide +kernel
theorem dX0_init_10 : decode cX0_init 10 = .ok (.aload_n 0, 1) := by decide +kernel
theorem dX0_init_11 : decode cX0_init 11 = .ok (.iload_n 1, 1) := by decide +kernel
theorem dX0_init_12 : decode cX0_init 12 = .ok (.putfield 15, 3) := by decide +kernel
theorem dX0_init_15 : decode cX0_init 15 = .ok (.aload_n 0, 1) := by decide +kernel
theorem dX0_init_16 : decode cX0_init 16 = .ok (.iload_n 2, 1) := by decide +kernel
theorem dX0_init_17 : decode cX0_init 17 = .ok (.putfield 18, 3) := by decide +kernel
theorem dX0_init_20 : decode cX0_init 20 = .ok (.aload_n 0, 1) := by decide +kernel
theorem dX0_init_21 : decode cX0_init 21 = .ok (.iload_n 3, 1) := by decide +kernel
theorem dX0_init_22 : decode cX0_init 22 = .ok (.putfield 21, 3) := by decide +kernel
theorem dX0_init_25 : decode cX0_init 25 = .ok (.aload_n 0, 1) := by decide +kernel
theorem dX0_init_26 : decode cX0_init 26 = .ok (.iload 4, 2) := by decide +kernel
theorem dX0_init_28 : decode cX0_init 28 = .ok (.putfield 24, 3) := by decide +kernel
theorem dX0_init_31 : decode cX0_init 31 = .ok (.return_, 1) := by decide +kernel
theorem dX0_hourBehind_0 : decode cX0_hourBehind 0 = .ok (.aload_n 0, 1) := by decide +kernel
theorem dX0_hourBehind_1 : decode cX0_hourBehind 1 = .ok (.getfield 18, 3) := by decide +kernel
theorem dX0_hourBehind_4 : decode cX0_hourBehind 4 = .ok (.aload_n 0, 1) := by decide +kernel
theorem dX0_hourBehind_5 : decode cX0_hourBehind 5 = .ok (.getfield 21, 3) := by decide +kernel
theorem dX0_hourBehind_8 : decode cX0_hourBehind 8 = .ok (.iadd, 1) := by decide +kernel
theorem dX0_hourBehind_9 : decode cX0_hourBehind 9 = .ok (.ireturn, 1) := by decide +kernel
theorem dX1_init_0 : decode cX1_init 0 = .ok (.aload_n 0, 1) := by decide +kernel
theorem dX1_init_1 : decode cX1_init 1 = .ok (.invokespecial 1, 3) := by decide +kernel
theorem dX1_init_4 : decode cX1_init 4 = .ok (.aload_n 0, 1) := by decide +kernel
theorem dX1_init_5 : decode cX1_init 5 = .ok (.iload_n 1, 1) := by decide +kernel
theorem dX1_init_6 : decode cX1_init 6 = .ok (.putfield 7, 3) := by decide +kernel
theorem dX1_init_9 : decode cX1_init 9 = .ok (.aload_n 0, 1) := by decide +kernel
theorem dX1_init_10 : decode cX1_init 10 = .ok (.iload_n 2, 1) := by decide +kernel
theorem dX1_init_11 : decode cX1_init 11 = .ok (.putfield 13, 3) := by decide +kernel
theorem dX1_init_14 : decode cX1_init 14 = .ok (.return_, 1) := by decide +kernel
theorem dX2_init_0 : decode cX2_init 0 = .ok (.aload_n 0, 1) := by decide +kernel
theorem dX2_init_1 : decode cX2_init 1 = .ok (.iload_n 1, 1) := by decide +kernel
theorem dX2_init_2 : decode cX2_init 2 = .ok (.iload_n 2, 1) := by decide +kernel
theorem dX2_init_3 : decode cX2_init 3 = .ok (.invokespecial 1, 3) := by decide +kernel
theorem dX2_init_6 : decode cX2_init 6 = .ok (.aload_n 0, 1) := by decide +kernel
theorem dX2_init_7 : decode cX2_init 7 = .ok (.aload_n 3, 1) := by decide +kernel
theorem dX2_init_8 : decode cX2_init 8 = .ok (.putfield 7, 3) := by decide +kernel
theorem dX2_init_11 : decode cX2_init 11 = .ok (.aload_n 0, 1) := by decide +kernel
theorem dX2_init_12 : decode cX2_init 12 = .ok (.iload 4, 2) := by decide +kernel
theorem dX2_init_14 : decode cX2_init 14 = .ok (.putfield 13, 3) := by decide +kernel
theorem dX2_init_17 : decode cX2_init 17 = .ok (.aload_n 0, 1) := by decide +kernel
theorem dX2_init_18 : decode cX2_init 18 = .ok (.iload 5, 2) := by decide +kernel
theorem dX2_init_20 : decode cX2_init 20 = .ok (.putfield 17, 3) := by decide +kernel
theorem dX2_init_23 : decode cX2_init 23 = .ok (.return_, 1) := by decide +kernel
theorem dX2_holdsIn_0 : decode cX2_holdsIn 0 = .ok (.aload_n 0, 1) := by decide +kernel
theorem dX2_holdsIn_1 : decode cX2_holdsIn 1 = .ok (.getfield 7, 3) := by decide +kernel
theorem dX2_holdsIn_4 : decode cX2_holdsIn 4 = .ok (.iload_n 1, 1) := by decide +kernel
theorem dX2_holdsIn_5 : decode cX2_holdsIn 5 = .ok (.invokevirtual 20, 3) := by decide +kernel
theorem dX2_holdsIn_8 : decode cX2_holdsIn 8 = .ok (.istore_n 2, 1) := by decide +kernel
theorem dX2_holdsIn_9 : decode cX2_holdsIn 9 = .ok (.aload_n 0, 1) := by decide +kernel
theorem dX2_holdsIn_10 : decode cX2_holdsIn 10 = .ok (.getfield 13, 3) := by decide +kernel
theorem dX2_holdsIn_13 : decode cX2_holdsIn 13 = .ok (.aload_n 0, 1) := by decide +kernel
theorem dX2_holdsIn_14 : decode cX2_holdsIn 14 = .ok (.getfield 17, 3) := by decide +kernel
theorem dX2_holdsIn_17 : decode cX2_holdsIn 17 = .ok (.if_icmp .ge 25, 3) := by decide +kernel
theorem dX2_holdsIn_20 : decode cX2_holdsIn 20 = .ok (.iload_n 2, 1) := by decide +kernel
theorem dX2_holdsIn_21 : decode cX2_holdsIn 21 = .ok (.aload_n 0, 1) := by decide +kernel
theorem dX2_holdsIn_22 : decode cX2_holdsIn 22 = .ok (.getfield 13, 3) := by decide +kernel
theorem dX2_holdsIn_25 : decode cX2_holdsIn 25 = .ok (.if_icmp .lt 15, 3) := by decide +kernel
theorem dX2_holdsIn_28 : decode cX2_holdsIn 28 = .ok (.iload_n 2, 1) := by decide +kernel
theorem dX2_holdsIn_29 : decode cX2_holdsIn 29 = .ok (.aload_n 0, 1) := by decide +kernel
theorem dX2_holdsIn_30 : decode cX2_holdsIn 30 = .ok (.getfield 17, 3) := by decide +kernel
theorem dX2_holdsIn_33 : decode cX2_holdsIn 33 = .ok (.if_icmp .ge 7, 3) := by decide +kernel
theorem dX2_holdsIn_36 : decode cX2_holdsIn 36 = .ok (.iconst 1, 1) := by decide +kernel
theorem dX2_holdsIn_37 : decode cX2_holdsIn 37 = .ok (.goto 4, 3) := by decide +kernel
theorem dX2_holdsIn_40 : decode cX2_holdsIn 40 = .ok (.iconst 0, 1) := by decide +kernel
theorem dX2_holdsIn_41 : decode cX2_holdsIn 41 = .ok (.ireturn, 1) := by decide +kernel
theorem dX2_holdsIn_42 : decode cX2_holdsIn 42 = .ok (.iload_n 2, 1) := by decide +kernel
theorem dX2_holdsIn_43 : decode cX2_holdsIn 43 = .ok (.aload_n 0, 1) := by decide +kernel
theorem dX2_holdsIn_44 : decode cX2_holdsIn 44 = .ok (.getfield 13, 3) := by decide +kernel
theorem dX2_holdsIn_47 : decode cX2_holdsIn 47 = .ok (.if_icmp .ge 11, 3) := by decide +kernel
theorem dX2_holdsIn_50 : decode cX2_holdsIn 50 = .ok (.iload_n 2, 1) := by decide +kernel
theorem dX2_holdsIn_51 : decode cX2_holdsIn 51 = .ok (.aload_n 0, 1) := by decide +kernel
theorem dX2_holdsIn_52 : decode cX2_holdsIn 52 = .ok (.getfield 17, 3) := by decide +kernel
theorem dX2_holdsIn_55 : decode cX2_holdsIn 55 = .ok (.if_icmp .ge 7, 3) := by decide +kernel
theorem dX2_holdsIn_58 : decode cX2_holdsIn 58 = .ok (.iconst 1, 1) := by decide +kernel
theorem dX2_holdsIn_59 : decode cX2_holdsIn 59 = .ok (.goto 4, 3) := by decide +kernel
theorem dX2_holdsIn_62 : decode cX2_holdsIn 62 = .ok (.iconst 0, 1) := by decide +kernel
theorem dX2_holdsIn_63 : decode cX2_holdsIn 63 = .ok (.ireturn, 1) := by decide +kernel
theorem dX3_init_0 : decode cX3_init 0 = .ok (.aload_n 0, 1) := by decide +kernel
theorem dX3_init_1 : decode cX3_init 1 = .ok (.iload_n 1, 1) := by decide +kernel
theorem dX3_init_2 : decode cX3_init 2 = .ok (.iload_n 2, 1) := by decide +kernel
theorem dX3_init_3 : decode cX3_init 3 = .ok (.invokespecial 1, 3) := by decide +kernel
theorem dX3_init_6 : decode cX3_init 6 = .ok (.aload_n 0, 1) := by decide +kernel
theorem dX3_init_7 : decode cX3_init 7 = .ok (.aload_n 3, 1) := by decide +kernel
theorem dX3_init_8 : decode cX3_init 8 = .ok (.putfield 7, 3) := by decide +kernel
theorem dX3_init_11 : decode cX3_init 11 = .ok (.return_, 1) := by decide +kernel
theorem dX3_holdsIn_0 : decode cX3_holdsIn 0 = .ok (.aload_n 0, 1) := by decide +kernel
theorem dX3_holdsIn_1 : decode cX3_holdsIn 1 = .ok (.getfield 7, 3) := by decide +kernel
theorem dX3_holdsIn_4 : decode cX3_holdsIn 4 = .ok (.aload_n 0, 1) := by decide +kernel
theorem dX3_holdsIn_5 : decode cX3_holdsIn 5 = .ok (.getfield 7, 3) := by decide +kernel
theorem dX3_holdsIn_8 : decode cX3_holdsIn 8 = .ok (.iload_n 1, 1) := by decide +kernel
theorem dX3_holdsIn_9 : decode cX3_holdsIn 9 = .ok (.invokevirtual 13, 3) := by decide +kernel
theorem dX3_holdsIn_12 : decode cX3_holdsIn 12 = .ok (.invokevirtual 19, 3) := by decide +kernel
theorem dX3_holdsIn_15 : decode cX3_holdsIn 15 = .ok (.ireturn, 1) := by decide +kernel
theorem dX4_init_0 : decode cX4_init 0 = .ok (.aload_n 0, 1) := by decide +kernel
theorem dX4_init_1 : decode cX4_init 1 = .ok (.iload_n 1, 1) := by decide +kernel
theorem dX4_init_2 : decode cX4_init 2 = .ok (.iload_n 2, 1) := by decide +kernel
theorem dX4_init_3 : decode cX4_init 3 = .ok (.invokespecial 1, 3) := by decide +kernel
theorem dX4_init_6 : decode cX4_init 6 = .ok (.aload_n 0, 1) := by decide +kernel
theorem dX4_init_7 : decode cX4_init 7 = .ok (.iload_n 3, 1) := by decide +kernel
theorem dX4_init_8 : decode cX4_init 8 = .ok (.putfield 7, 3) := by decide +kernel
theorem dX4_init_11 : decode cX4_init 11 = .ok (.aload_n 0, 1) := by decide +kernel
theorem dX4_init_12 : decode cX4_init 12 = .ok (.iload 4, 2) := by decide +kernel
theorem dX4_init_14 : decode cX4_init 14 = .ok (.putfield 13, 3) := by decide +kernel
theorem dX4_init_17 : decode cX4_init 17 = .ok (.return_, 1) := by decide +kernel
theorem dX4_holdsIn_0 : decode cX4_holdsIn 0 = .ok (.iload_n 1, 1) := by decide +kernel
theorem dX4_holdsIn_1 : decode cX4_holdsIn 1 = .ok (.aload_n 0, 1) := by decide +kernel
theorem dX4_holdsIn_2 : decode cX4_holdsIn 2 = .ok (.getfield 7, 3) := by decide +kernel
theorem dX4_holdsIn_5 : decode cX4_holdsIn 5 = .ok (.if_icmp .lt 15, 3) := by decide +kernel
theorem dX4_holdsIn_8 : decode cX4_holdsIn 8 = .ok (.iload_n 1, 1) := by decide +kernel
theorem dX4_holdsIn_9 : decode cX4_holdsIn 9 = .ok (.aload_n 0, 1) := by decide +kernel
theorem dX4_holdsIn_10 : decode cX4_holdsIn 10 = .ok (.getfield 13, 3) := by decide +kernel
theorem dX4_holdsIn_13 : decode cX4_holdsIn 13 = .ok (.if_icmp .ge 7, 3) := by decide +kernel
theorem dX4_holdsIn_16 : decode cX4_holdsIn 16 = .ok (.iconst 1, 1) := by decide +kernel
theorem dX4_holdsIn_17 : decode cX4_holdsIn 17 = .ok (.goto 4, 3) := by decide +kernel
theorem dX4_holdsIn_20 : decode cX4_holdsIn 20 = .ok (.iconst 0, 1) := by decide +kernel
theorem dX4_holdsIn_21 : decode cX4_holdsIn 21 = .ok (.ireturn, 1) := by decide +kernel
theorem dX5_init_0 : decode cX5_init 0 = .ok (.aload_n 0, 1) := by decide +kernel
theorem dX5_init_1 : decode cX5_init 1 = .ok (.invokespecial 3, 3) := by decide +kernel
theorem dX5_init_4 : decode cX5_init 4 = .ok (.return_, 1) := by decide +kernel
theorem dX5_hourOfDay_0 : decode cX5_hourOfDay 0 = .ok (.iload_n 1, 1) := by decide +kernel
theorem dX5_hourOfDay_1 : decode cX5_hourOfDay 1 = .ok (.aload_n 0, 1) := by decide +kernel
theorem dX5_hourOfDay_2 : decode cX5_hourOfDay 2 = .ok (.getfield 9, 3) := by decide +kernel
theorem dX5_hourOfDay_5 : decode cX5_hourOfDay 5 = .ok (.iadd, 1) := by decide +kernel
theorem dX5_hourOfDay_6 : decode cX5_hourOfDay 6 = .ok (.bipush 24, 2) := by decide +kernel
theorem dX5_hourOfDay_8 : decode cX5_hourOfDay 8 = .ok (.invokestatic 15, 3) := by decide +kernel
theorem dX5_hourOfDay_11 : decode cX5_hourOfDay 11 = .ok (.ireturn, 1) := by decide +kernel
theorem dX5_dayOf_0 : decode cX5_dayOf 0 = .ok (.iload_n 1, 1) := by decide +kernel
theorem dX5_dayOf_1 : decode cX5_dayOf 1 = .ok (.aload_n 0, 1) := by decide +kernel
theorem dX5_dayOf_2 : decode cX5_dayOf 2 = .ok (.getfield 9, 3) := by decide +kernel
theorem dX5_dayOf_5 : decode cX5_dayOf 5 = .ok (.iadd, 1) := by decide +kernel
theorem dX5_dayOf_6 : decode cX5_dayOf 6 = .ok (.bipush 24, 2) := by decide +kernel
theorem dX5_dayOf_8 : decode cX5_dayOf 8 = .ok (.invokestatic 21, 3) := by decide +kernel
theorem dX5_dayOf_11 : decode cX5_dayOf 11 = .ok (.ireturn, 1) := by decide +kernel
theorem dX5_isFeastDay_0 : decode cX5_isFeastDay 0 = .ok (.aload_n 0, 1) := by decide +kernel
theorem dX5_isFeastDay_1 : decode cX5_isFeastDay 1 = .ok (.getfield 24, 3) := by decide +kernel
theorem dX5_isFeastDay_4 : decode cX5_isFeastDay 4 = .ok (.iload_n 1, 1) := by decide +kernel
theorem dX5_isFeastDay_5 : decode cX5_isFeastDay 5 = .ok (.iconst (-1), 1) := by decide +kernel
theorem dX5_isFeastDay_6 : decode cX5_isFeastDay 6 = .ok (.isub, 1) := by decide +kernel
theorem dX5_isFeastDay_7 : decode cX5_isFeastDay 7 = .ok (.invokestatic 27, 3) := by decide +kernel
theorem dX5_isFeastDay_10 : decode cX5_isFeastDay 10 = .ok (.ireturn, 1) := by decide +kernel
theorem dX5_turnFeastDay_0 : decode cX5_turnFeastDay 0 = .ok (.aload_n 0, 1) := by decide +kernel
theorem dX5_turnFeastDay_1 : decode cX5_turnFeastDay 1 = .ok (.dup, 1) := by decide +kernel
theorem dX5_turnFeastDay_2 : decode cX5_turnFeastDay 2 = .ok (.getfield 24, 3) := by decide +kernel
theorem dX5_turnFeastDay_5 : decode cX5_turnFeastDay 5 = .ok (.iconst 1, 1) := by decide +kernel
theorem dX5_turnFeastDay_6 : decode cX5_turnFeastDay 6 = .ok (.iload_n 1, 1) := by decide +kernel
theorem dX5_turnFeastDay_7 : decode cX5_turnFeastDay 7 = .ok (.iconst (-1), 1) := by decide +kernel
theorem dX5_turnFeastDay_8 : decode cX5_turnFeastDay 8 = .ok (.isub, 1) := by decide +kernel
theorem dX5_turnFeastDay_9 : decode cX5_turnFeastDay 9 = .ok (.ishl, 1) := by decide +kernel
theorem dX5_turnFeastDay_10 : decode cX5_turnFeastDay 10 = .ok (.ixor, 1) := by decide +kernel
theorem dX5_turnFeastDay_11 : decode cX5_turnFeastDay 11 = .ok (.putfield 24, 3) := by decide +kernel
theorem dX5_turnFeastDay_14 : decode cX5_turnFeastDay 14 = .ok (.return_, 1) := by decide +kernel
theorem dX6_init_0 : decode cX6_init 0 = .ok (.aload_n 0, 1) := by decide +kernel
theorem dX6_init_1 : decode cX6_init 1 = .ok (.invokespecial 1, 3) := by decide +kernel
theorem dX6_init_4 : decode cX6_init 4 = .ok (.aload_n 0, 1) := by decide +kernel
theorem dX6_init_5 : decode cX6_init 5 = .ok (.bipush 16, 2) := by decide +kernel
theorem dX6_init_7 : decode cX6_init 7 = .ok (.newarray .int, 2) := by decide +kernel
theorem dX6_init_9 : decode cX6_init 9 = .ok (.putfield 9, 3) := by decide +kernel
theorem dX6_init_12 : decode cX6_init 12 = .ok (.aload_n 0, 1) := by decide +kernel
theorem dX6_init_13 : decode cX6_init 13 = .ok (.iconst 4, 1) := by decide +kernel
theorem dX6_init_14 : decode cX6_init 14 = .ok (.anewarray 13, 3) := by decide +kernel
theorem dX6_init_17 : decode cX6_init 17 = .ok (.putfield 15, 3) := by decide +kernel
theorem dX6_init_20 : decode cX6_init 20 = .ok (.aload_n 0, 1) := by decide +kernel
theorem dX6_init_21 : decode cX6_init 21 = .ok (.bipush 20, 2) := by decide +kernel
theorem dX6_init_23 : decode cX6_init 23 = .ok (.anewarray 19, 3) := by decide +kernel
theorem dX6_init_26 : decode cX6_init 26 = .ok (.putfield 21, 3) := by decide +kernel
theorem dX6_init_29 : decode cX6_init 29 = .ok (.aload_n 0, 1) := by decide +kernel
theorem dX6_init_30 : decode cX6_init 30 = .ok (.bipush 30, 2) := by decide +kernel
theorem dX6_init_32 : decode cX6_init 32 = .ok (.anewarray 25, 3) := by decide +kernel
theorem dX6_init_35 : decode cX6_init 35 = .ok (.putfield 27, 3) := by decide +kernel
theorem dX6_init_38 : decode cX6_init 38 = .ok (.aload_n 0, 1) := by decide +kernel
theorem dX6_init_39 : decode cX6_init 39 = .ok (.iconst 4, 1) := by decide +kernel
theorem dX6_init_40 : decode cX6_init 40 = .ok (.newarray .int, 2) := by decide +kernel
theorem dX6_init_42 : decode cX6_init 42 = .ok (.putfield 31, 3) := by decide +kernel
theorem dX6_init_45 : decode cX6_init 45 = .ok (.aload_n 0, 1) := by decide +kernel
theorem dX6_init_46 : decode cX6_init 46 = .ok (.bipush 100, 2) := by decide +kernel
theorem dX6_init_48 : decode cX6_init 48 = .ok (.newarray .boolean, 2) := by decide +kernel
theorem dX6_init_50 : decode cX6_init 50 = .ok (.putfield 34, 3) := by decide +kernel
theorem dX6_init_53 : decode cX6_init 53 = .ok (.aload_n 0, 1) := by decide +kernel
theorem dX6_init_54 : decode cX6_init 54 = .ok (.getfield 9, 3) := by decide +kernel
theorem dX6_init_57 : decode cX6_init 57 = .ok (.iconst 0, 1) := by decide +kernel
theorem dX6_init_58 : decode cX6_init 58 = .ok (.iconst 1, 1) := by decide +kernel
theorem dX6_init_59 : decode cX6_init 59 = .ok (.iastore, 1) := by decide +kernel
theorem dX6_init_60 : decode cX6_init 60 = .ok (.aload_n 0, 1) := by decide +kernel
theorem dX6_init_61 : decode cX6_init 61 = .ok (.iconst 1, 1) := by decide +kernel
theorem dX6_init_62 : decode cX6_init 62 = .ok (.putfield 38, 3) := by decide +kernel
theorem dX6_init_65 : decode cX6_init 65 = .ok (.iconst 0, 1) := by decide +kernel
theorem dX6_init_66 : decode cX6_init 66 = .ok (.istore_n 1, 1) := by decide +kernel
theorem dX6_init_67 : decode cX6_init 67 = .ok (.iload_n 1, 1) := by decide +kernel
theorem dX6_init_68 : decode cX6_init 68 = .ok (.iconst 4, 1) := by decide +kernel
theorem dX6_init_69 : decode cX6_init 69 = .ok (.if_icmp .ge 22, 3) := by decide +kernel
theorem dX6_init_72 : decode cX6_init 72 = .ok (.aload_n 0, 1) := by decide +kernel
theorem dX6_init_73 : decode cX6_init 73 = .ok (.getfield 15, 3) := by decide +kernel
theorem dX6_init_76 : decode cX6_init 76 = .ok (.iload_n 1, 1) := by decide +kernel
theorem dX6_init_77 : decode cX6_init 77 = .ok (.new 13, 3) := by decide +kernel
theorem dX6_init_80 : decode cX6_init 80 = .ok (.dup, 1) := by decide +kernel
theorem dX6_init_81 : decode cX6_init 81 = .ok (.invokespecial 42, 3) := by decide +kernel
theorem dX6_init_84 : decode cX6_init 84 = .ok (.aastore, 1) := by decide +kernel
theorem dX6_init_85 : decode cX6_init 85 = .ok (.iinc 1 1, 3) := by decide +kernel
theorem dX6_init_88 : decode cX6_init 88 = .ok (.goto (-21), 3) := by decide +kernel
theorem dX6_init_91 : decode cX6_init 91 = .ok (.return_, 1) := by decide +kernel
theorem dX6_scope_0 : decode cX6_scope 0 = .ok (.aload_n 0, 1) := by decide +kernel
theorem dX6_scope_1 : decode cX6_scope 1 = .ok (.iload_n 1, 1) := by decide +kernel
theorem dX6_scope_2 : decode cX6_scope 2 = .ok (.invokevirtual 43, 3) := by decide +kernel
theorem dX6_scope_5 : decode cX6_scope 5 = .ok (.aload_n 0, 1) := by decide +kernel
theorem dX6_scope_6 : decode cX6_scope 6 = .ok (.getfield 38, 3) := by decide +kernel
theorem dX6_scope_9 : decode cX6_scope 9 = .ok (.bipush 16, 2) := by decide +kernel
theorem dX6_scope_11 : decode cX6_scope 11 = .ok (.if_icmp .lt 13, 3) := by decide +kernel
theorem dX6_scope_14 : decode cX6_scope 14 = .ok (.new 47, 3) := by decide +kernel
theorem dX6_scope_17 : decode cX6_scope 17 = .ok (.dup, 1) := by decide +kernel
theorem dX6_scope_18 : decode cX6_scope 18 = .ok (.ldc 49, 2) := by decide +kernel
theorem dX6_scope_20 : decode cX6_scope 20 = .ok (.invokespecial 51, 3) := by decide +kernel
theorem dX6_scope_23 : decode cX6_scope 23 = .ok (.athrow, 1) := by decide +kernel
theorem dX6_scope_24 : decode cX6_scope 24 = .ok (.aload_n 0, 1) := by decide +kernel
theorem dX6_scope_25 : decode cX6_scope 25 = .ok (.getfield 38, 3) := by decide +kernel
theorem dX6_scope_28 : decode cX6_scope 28 = .ok (.istore_n 2, 1) := by decide +kernel
theorem dX6_scope_29 : decode cX6_scope 29 = .ok (.aload_n 0, 1) := by decide +kernel
theorem dX6_scope_30 : decode cX6_scope 30 = .ok (.getfield 9, 3) := by decide +kernel
theorem dX6_scope_33 : decode cX6_scope 33 = .ok (.iload_n 2, 1) := by decide +kernel
theorem dX6_scope_34 : decode cX6_scope 34 = .ok (.aload_n 0, 1) := by decide +kernel
theorem dX6_scope_35 : decode cX6_scope 35 = .ok (.getfield 9, 3) := by decide +kernel
theorem dX6_scope_38 : decode cX6_scope 38 = .ok (.iload_n 1, 1) := by decide +kernel
theorem dX6_scope_39 : decode cX6_scope 39 = .ok (.iaload, 1) := by decide +kernel
theorem dX6_scope_40 : decode cX6_scope 40 = .ok (.iconst 1, 1) := by decide +kernel
theorem dX6_scope_41 : decode cX6_scope 41 = .ok (.iload_n 2, 1) := by decide +kernel
theorem dX6_scope_42 : decode cX6_scope 42 = .ok (.ishl, 1) := by decide +kernel
theorem dX6_scope_43 : decode cX6_scope 43 = .ok (.ior, 1) := by decide +kernel
theorem dX6_scope_44 : decode cX6_scope 44 = .ok (.iastore, 1) := by decide +kernel
theorem dX6_scope_45 : decode cX6_scope 45 = .ok (.aload_n 0, 1) := by decide +kernel
theorem dX6_scope_46 : decode cX6_scope 46 = .ok (.iload_n 2, 1) := by decide +kernel
theorem dX6_scope_47 : decode cX6_scope 47 = .ok (.iconst 1, 1) := by decide +kernel
theorem dX6_scope_48 : decode cX6_scope 48 = .ok (.iadd, 1) := by decide +kernel
theorem dX6_scope_49 : decode cX6_scope 49 = .ok (.putfield 38, 3) := by decide +kernel
theorem dX6_scope_52 : decode cX6_scope 52 = .ok (.iload_n 2, 1) := by decide +kernel
theorem dX6_scope_53 : decode cX6_scope 53 = .ok (.ireturn, 1) := by decide +kernel
theorem dX6_offset_0 : decode cX6_offset 0 = .ok (.aload_n 0, 1) := by decide +kernel
theorem dX6_offset_1 : decode cX6_offset 1 = .ok (.iload_n 1, 1) := by decide +kernel
theorem dX6_offset_2 : decode cX6_offset 2 = .ok (.invokevirtual 54, 3) := by decide +kernel
theorem dX6_offset_5 : decode cX6_offset 5 = .ok (.astore_n 3, 1) := by decide +kernel
theorem dX6_offset_6 : decode cX6_offset 6 = .ok (.iload_n 2, 1) := by decide +kernel
theorem dX6_offset_7 : decode cX6_offset 7 = .ok (.bipush (-11), 2) := by decide +kernel
theorem dX6_offset_9 : decode cX6_offset 9 = .ok (.bipush 12, 2) := by decide +kernel
theorem dX6_offset_11 : decode cX6_offset 11 = .ok (.invokestatic 58, 3) := by decide +kernel
theorem dX6_offset_14 : decode cX6_offset 14 = .ok (.aload_n 3, 1) := by decide +kernel
theorem dX6_offset_15 : decode cX6_offset 15 = .ok (.getfield 62, 3) := by decide +kernel
theorem dX6_offset_18 : decode cX6_offset 18 = .ok (.istore 4, 2) := by decide +kernel
theorem dX6_offset_20 : decode cX6_offset 20 = .ok (.aload_n 3, 1) := by decide +kernel
theorem dX6_offset_21 : decode cX6_offset 21 = .ok (.iload_n 2, 1) := by decide +kernel
theorem dX6_offset_22 : decode cX6_offset 22 = .ok (.putfield 62, 3) := by decide +kernel
theorem dX6_offset_25 : decode cX6_offset 25 = .ok (.iload 4, 2) := by decide +kernel
theorem dX6_offset_27 : decode cX6_offset 27 = .ok (.ireturn, 1) := by decide +kernel
theorem dX6_feast_0 : decode cX6_feast 0 = .ok (.aload_n 0, 1) := by decide +kernel
theorem dX6_feast_1 : decode cX6_feast 1 = .ok (.iload_n 1, 1) := by decide +kernel
theorem dX6_feast_2 : decode cX6_feast 2 = .ok (.invokevirtual 54, 3) := by decide +kernel
theorem dX6_feast_5 : decode cX6_feast 5 = .ok (.astore_n 3, 1) := by decide +kernel
theorem dX6_feast_6 : decode cX6_feast 6 = .ok (.iload_n 2, 1) := by decide +kernel
theorem dX6_feast_7 : decode cX6_feast 7 = .ok (.iconst (-1), 1) := by decide +kernel
theorem dX6_feast_8 : decode cX6_feast 8 = .ok (.bipush 28, 2) := by decide +kernel
theorem dX6_feast_10 : decode cX6_feast 10 = .ok (.invokestatic 58, 3) := by decide +kernel
theorem dX6_feast_13 : decode cX6_feast 13 = .ok (.aload_n 3, 1) := by decide +kernel
theorem dX6_feast_14 : decode cX6_feast 14 = .ok (.iload_n 2, 1) := by decide +kernel
theorem dX6_feast_15 : decode cX6_feast 15 = .ok (.invokevirtual 65, 3) := by decide +kernel
theorem dX6_feast_18 : decode cX6_feast 18 = .ok (.aload_n 3, 1) := by decide +kernel
theorem dX6_feast_19 : decode cX6_feast 19 = .ok (.iload_n 2, 1) := by decide +kernel
theorem dX6_feast_20 : decode cX6_feast 20 = .ok (.invokevirtual 68, 3) := by decide +kernel
theorem dX6_feast_23 : decode cX6_feast 23 = .ok (.ireturn, 1) := by decide +kernel
theorem dX6_pass_0 : decode cX6_pass 0 = .ok (.iload_n 1, 1) := by decide +kernel
theorem dX6_pass_1 : decode cX6_pass 1 = .ok (.iconst 1, 1) := by decide +kernel
theorem dX6_pass_2 : decode cX6_pass 2 = .ok (.bipush 100, 2) := by decide +kernel
theorem dX6_pass_4 : decode cX6_pass 4 = .ok (.invokestatic 58, 3) := by decide +kernel
theorem dX6_pass_7 : decode cX6_pass 7 = .ok (.aload_n 0, 1) := by decide +kernel
theorem dX6_pass_8 : decode cX6_pass 8 = .ok (.getfield 72, 3) := by decide +kernel
theorem dX6_pass_11 : decode cX6_pass 11 = .ok (.iload_n 1, 1) := by decide +kernel
theorem dX6_pass_12 : decode cX6_pass 12 = .ok (.iadd, 1) := by decide +kernel
theorem dX6_pass_13 : decode cX6_pass 13 = .ok (.sipush 672, 3) := by decide +kernel
theorem dX6_pass_16 : decode cX6_pass 16 = .ok (.if_icmp .lt 13, 3) := by decide +kernel
theorem dX6_pass_19 : decode cX6_pass 19 = .ok (.new 47, 3) := by decide +kernel
theorem dX6_pass_22 : decode cX6_pass 22 = .ok (.dup, 1) := by decide +kernel
theorem dX6_pass_23 : decode cX6_pass 23 = .ok (.ldc 75, 2) := by decide +kernel
theorem dX6_pass_25 : decode cX6_pass 25 = .ok (.invokespecial 51, 3) := by decide +kernel
theorem dX6_pass_28 : decode cX6_pass 28 = .ok (.athrow, 1) := by decide +kernel
theorem dX6_pass_29 : decode cX6_pass 29 = .ok (.aload_n 0, 1) := by decide +kernel
theorem dX6_pass_30 : decode cX6_pass 30 = .ok (.dup, 1) := by decide +kernel
theorem dX6_pass_31 : decode cX6_pass 31 = .ok (.getfield 72, 3) := by decide +kernel
theorem dX6_pass_34 : decode cX6_pass 34 = .ok (.iload_n 1, 1) := by decide +kernel
theorem dX6_pass_35 : decode cX6_pass 35 = .ok (.iadd, 1) := by decide +kernel
theorem dX6_pass_36 : decode cX6_pass 36 = .ok (.putfield 72, 3) := by decide +kernel
theorem dX6_pass_39 : decode cX6_pass 39 = .ok (.aload_n 0, 1) := by decide +kernel
theorem dX6_pass_40 : decode cX6_pass 40 = .ok (.getfield 72, 3) := by decide +kernel
theorem dX6_pass_43 : decode cX6_pass 43 = .ok (.ireturn, 1) := by decide +kernel
theorem dX6_now_0 : decode cX6_now 0 = .ok (.aload_n 0, 1) := by decide +kernel
theorem dX6_now_1 : decode cX6_now 1 = .ok (.getfield 72, 3) := by decide +kernel
theorem dX6_now_4 : decode cX6_now 4 = .ok (.ireturn, 1) := by decide +kernel
theorem dX6_once_0 : decode cX6_once 0 = .ok (.aload_n 0, 1) := by decide +kernel
theorem dX6_once_1 : decode cX6_once 1 = .ok (.iload_n 1, 1) := by decide +kernel
theorem dX6_once_2 : decode cX6_once 2 = .ok (.invokevirtual 43, 3) := by decide +kernel
theorem dX6_once_5 : decode cX6_once 5 = .ok (.iload_n 2, 1) := by decide +kernel
theorem dX6_once_6 : decode cX6_once 6 = .ok (.iconst 0, 1) := by decide +kernel
theorem dX6_once_7 : decode cX6_once 7 = .ok (.sipush 671, 3) := by decide +kernel
theorem dX6_once_10 : decode cX6_once 10 = .ok (.invokestatic 58, 3) := by decide +kernel
theorem dX6_once_13 : decode cX6_once 13 = .ok (.iload_n 3, 1) := by decide +kernel
theorem dX6_once_14 : decode cX6_once 14 = .ok (.iload_n 2, 1) := by decide +kernel
theorem dX6_once_15 : decode cX6_once 15 = .ok (.iconst 1, 1) := by decide +kernel
theorem dX6_once_16 : decode cX6_once 16 = .ok (.iadd, 1) := by decide +kernel
theorem dX6_once_17 : decode cX6_once 17 = .ok (.sipush 672, 3) := by decide +kernel
theorem dX6_once_20 : decode cX6_once 20 = .ok (.invokestatic 58, 3) := by decide +kernel
theorem dX6_once_23 : decode cX6_once 23 = .ok (.iload 4, 2) := by decide +kernel
theorem dX6_once_25 : decode cX6_once 25 = .ok (.iconst 1, 1) := by decide +kernel
theorem dX6_once_26 : decode cX6_once 26 = .ok (.iconst 3, 1) := by decide +kernel
theorem dX6_once_27 : decode cX6_once 27 = .ok (.invokestatic 58, 3) := by decide +kernel
theorem dX6_once_30 : decode cX6_once 30 = .ok (.aload_n 0, 1) := by decide +kernel
theorem dX6_once_31 : decode cX6_once 31 = .ok (.invokevirtual 77, 3) := by decide +kernel
theorem dX6_once_34 : decode cX6_once 34 = .ok (.aload_n 0, 1) := by decide +kernel
theorem dX6_once_35 : decode cX6_once 35 = .ok (.new 80, 3) := by decide +kernel
theorem dX6_once_38 : decode cX6_once 38 = .ok (.dup, 1) := by decide +kernel
theorem dX6_once_39 : decode cX6_once 39 = .ok (.iload_n 1, 1) := by decide +kernel
theorem dX6_once_40 : decode cX6_once 40 = .ok (.iload 4, 2) := by decide +kernel
theorem dX6_once_42 : decode cX6_once 42 = .ok (.iload_n 2, 1) := by decide +kernel
theorem dX6_once_43 : decode cX6_once 43 = .ok (.iload_n 3, 1) := by decide +kernel
theorem dX6_once_44 : decode cX6_once 44 = .ok (.invokespecial 82, 3) := by decide +kernel
theorem dX6_once_47 : decode cX6_once 47 = .ok (.invokevirtual 85, 3) := by decide +kernel
theorem dX6_once_50 : decode cX6_once 50 = .ok (.ireturn, 1) := by decide +kernel
theorem dX6_daily_0 : decode cX6_daily 0 = .ok (.aload_n 0, 1) := by decide +kernel
theorem dX6_daily_1 : decode cX6_daily 1 = .ok (.iload_n 1, 1) := by decide +kernel
theorem dX6_daily_2 : decode cX6_daily 2 = .ok (.invokevirtual 43, 3) := by decide +kernel
theorem dX6_daily_5 : decode cX6_daily 5 = .ok (.aload_n 0, 1) := by decide +kernel
theorem dX6_daily_6 : decode cX6_daily 6 = .ok (.iload_n 2, 1) := by decide +kernel
theorem dX6_daily_7 : decode cX6_daily 7 = .ok (.invokevirtual 54, 3) := by decide +kernel
theorem dX6_daily_10 : decode cX6_daily 10 = .ok (.astore 6, 2) := by decide +kernel
theorem dX6_daily_12 : decode cX6_daily 12 = .ok (.iload_n 3, 1) := by decide +kernel
theorem dX6_daily_13 : decode cX6_daily 13 = .ok (.iconst 0, 1) := by decide +kernel
theorem dX6_daily_14 : decode cX6_daily 14 = .ok (.bipush 23, 2) := by decide +kernel
theorem dX6_daily_16 : decode cX6_daily 16 = .ok (.invokestatic 58, 3) := by decide +kernel
theorem dX6_daily_19 : decode cX6_daily 19 = .ok (.iload 4, 2) := by decide +kernel
theorem dX6_daily_21 : decode cX6_daily 21 = .ok (.iconst 0, 1) := by decide +kernel
theorem dX6_daily_22 : decode cX6_daily 22 = .ok (.bipush 23, 2) := by decide +kernel
theorem dX6_daily_24 : decode cX6_daily 24 = .ok (.invokestatic 58, 3) := by decide +kernel
theorem dX6_daily_27 : decode cX6_daily 27 = .ok (.iload 5, 2) := by decide +kernel
theorem dX6_daily_29 : decode cX6_daily 29 = .ok (.iconst 1, 1) := by decide +kernel
theorem dX6_daily_30 : decode cX6_daily 30 = .ok (.iconst 3, 1) := by decide +kernel
theorem dX6_daily_31 : decode cX6_daily 31 = .ok (.invokestatic 58, 3) := by decide +kernel
theorem dX6_daily_34 : decode cX6_daily 34 = .ok (.aload_n 0, 1) := by decide +kernel
theorem dX6_daily_35 : decode cX6_daily 35 = .ok (.invokevirtual 77, 3) := by decide +kernel
theorem dX6_daily_38 : decode cX6_daily 38 = .ok (.aload_n 0, 1) := by decide +kernel
theorem dX6_daily_39 : decode cX6_daily 39 = .ok (.new 89, 3) := by decide +kernel
theorem dX6_daily_42 : decode cX6_daily 42 = .ok (.dup, 1) := by decide +kernel
theorem dX6_daily_43 : decode cX6_daily 43 = .ok (.iload_n 1, 1) := by decide +kernel
theorem dX6_daily_44 : decode cX6_daily 44 = .ok (.iload 5, 2) := by decide +kernel
theorem dX6_daily_46 : decode cX6_daily 46 = .ok (.aload 6, 2) := by decide +kernel
theorem dX6_daily_48 : decode cX6_daily 48 = .ok (.iload_n 3, 1) := by decide +kernel
theorem dX6_daily_49 : decode cX6_daily 49 = .ok (.iload 4, 2) := by decide +kernel
theorem dX6_daily_51 : decode cX6_daily 51 = .ok (.invokespecial 91, 3) := by decide +kernel
theorem dX6_daily_54 : decode cX6_daily 54 = .ok (.invokevirtual 85, 3) := by decide +kernel
theorem dX6_daily_57 : decode cX6_daily 57 = .ok (.ireturn, 1) := by decide +kernel
theorem dX6_feasts_0 : decode cX6_feasts 0 = .ok (.aload_n 0, 1) := by decide +kernel
theorem dX6_feasts_1 : decode cX6_feasts 1 = .ok (.iload_n 1, 1) := by decide +kernel
theorem dX6_feasts_2 : decode cX6_feasts 2 = .ok (.invokevirtual 43, 3) := by decide +kernel
theorem dX6_feasts_5 : decode cX6_feasts 5 = .ok (.aload_n 0, 1) := by decide +kernel
theorem dX6_feasts_6 : decode cX6_feasts 6 = .ok (.iload_n 2, 1) := by decide +kernel
theorem dX6_feasts_7 : decode cX6_feasts 7 = .ok (.invokevirtual 54, 3) := by decide +kernel
theorem dX6_feasts_10 : decode cX6_feasts 10 = .ok (.astore 4, 2) := by decide +kernel
theorem dX6_feasts_12 : decode cX6_feasts 12 = .ok (.iload_n 3, 1) := by decide +kernel
theorem dX6_feasts_13 : decode cX6_feasts 13 = .ok (.iconst 1, 1) := by decide +kernel
theorem dX6_feasts_14 : decode cX6_feasts 14 = .ok (.iconst 3, 1) := by decide +kernel
theorem dX6_feasts_15 : decode cX6_feasts 15 = .ok (.invokestatic 58, 3) := by decide +kernel
theorem dX6_feasts_18 : decode cX6_feasts 18 = .ok (.aload_n 0, 1) := by decide +kernel
theorem dX6_feasts_19 : decode cX6_feasts 19 = .ok (.invokevirtual 77, 3) := by decide +kernel
theorem dX6_feasts_22 : decode cX6_feasts 22 = .ok (.aload_n 0, 1) := by decide +kernel
theorem dX6_feasts_23 : decode cX6_feasts 23 = .ok (.new 94, 3) := by decide +kernel
theorem dX6_feasts_26 : decode cX6_feasts 26 = .ok (.dup, 1) := by decide +kernel
theorem dX6_feasts_27 : decode cX6_feasts 27 = .ok (.iload_n 1, 1) := by decide +kernel
theorem dX6_feasts_28 : decode cX6_feasts 28 = .ok (.iload_n 3, 1) := by decide +kernel
theorem dX6_feasts_29 : decode cX6_feasts 29 = .ok (.aload 4, 2) := by decide +kernel
theorem dX6_feasts_31 : decode cX6_feasts 31 = .ok (.invokespecial 96, 3) := by decide +kernel
theorem dX6_feasts_34 : decode cX6_feasts 34 = .ok (.invokevirtual 85, 3) := by decide +kernel
theorem dX6_feasts_37 : decode cX6_feasts 37 = .ok (.ireturn, 1) := by decide +kernel
theorem dX6_lift_0 : decode cX6_lift 0 = .ok (.aload_n 0, 1) := by decide +kernel
theorem dX6_lift_1 : decode cX6_lift 1 = .ok (.iload_n 1, 1) := by decide +kernel
theorem dX6_lift_2 : decode cX6_lift 2 = .ok (.invokevirtual 99, 3) := by decide +kernel
theorem dX6_lift_5 : decode cX6_lift 5 = .ok (.pop, 1) := by decide +kernel
theorem dX6_lift_6 : decode cX6_lift 6 = .ok (.aload_n 0, 1) := by decide +kernel
theorem dX6_lift_7 : decode cX6_lift 7 = .ok (.getfield 21, 3) := by decide +kernel
theorem dX6_lift_10 : decode cX6_lift 10 = .ok (.iload_n 1, 1) := by decide +kernel
theorem dX6_lift_11 : decode cX6_lift 11 = .ok (.aconst_null, 1) := by decide +kernel
theorem dX6_lift_12 : decode cX6_lift 12 = .ok (.aastore, 1) := by decide +kernel
theorem dX6_lift_13 : decode cX6_lift 13 = .ok (.aload_n 0, 1) := by decide +kernel
theorem dX6_lift_14 : decode cX6_lift 14 = .ok (.dup, 1) := by decide +kernel
theorem dX6_lift_15 : decode cX6_lift 15 = .ok (.getfield 103, 3) := by decide +kernel
theorem dX6_lift_18 : decode cX6_lift 18 = .ok (.iconst 1, 1) := by decide +kernel
theorem dX6_lift_19 : decode cX6_lift 19 = .ok (.isub, 1) := by decide +kernel
theorem dX6_lift_20 : decode cX6_lift 20 = .ok (.putfield 103, 3) := by decide +kernel
theorem dX6_lift_23 : decode cX6_lift 23 = .ok (.aload_n 0, 1) := by decide +kernel
theorem dX6_lift_24 : decode cX6_lift 24 = .ok (.getfield 103, 3) := by decide +kernel
theorem dX6_lift_27 : decode cX6_lift 27 = .ok (.ireturn, 1) := by decide +kernel
theorem dX6_holding_0 : decode cX6_holding 0 = .ok (.aload_n 0, 1) := by decide +kernel
theorem dX6_holding_1 : decode cX6_holding 1 = .ok (.iload_n 1, 1) := by decide +kernel
theorem dX6_holding_2 : decode cX6_holding 2 = .ok (.invokevirtual 43, 3) := by decide +kernel
theorem dX6_holding_5 : decode cX6_holding 5 = .ok (.iload_n 2, 1) := by decide +kernel
theorem dX6_holding_6 : decode cX6_holding 6 = .ok (.iconst 0, 1) := by decide +kernel
theorem dX6_holding_7 : decode cX6_holding 7 = .ok (.sipush 671, 3) := by decide +kernel
theorem dX6_holding_10 : decode cX6_holding 10 = .ok (.invokestatic 58, 3) := by decide +kernel
theorem dX6_holding_13 : decode cX6_holding 13 = .ok (.aload_n 0, 1) := by decide +kernel
theorem dX6_holding_14 : decode cX6_holding 14 = .ok (.aload_n 0, 1) := by decide +kernel
theorem dX6_holding_15 : decode cX6_holding 15 = .ok (.iload_n 1, 1) := by decide +kernel
theorem dX6_holding_16 : decode cX6_holding 16 = .ok (.invokevirtual 106, 3) := by decide +kernel
theorem dX6_holding_19 : decode cX6_holding 19 = .ok (.iload_n 2, 1) := by decide +kernel
theorem dX6_holding_20 : decode cX6_holding 20 = .ok (.invokevirtual 110, 3) := by decide +kernel
theorem dX6_holding_23 : decode cX6_holding 23 = .ok (.ireturn, 1) := by decide +kernel
theorem dX6_hours_0 : decode cX6_hours 0 = .ok (.aload_n 0, 1) := by decide +kernel
theorem dX6_hours_1 : decode cX6_hours 1 = .ok (.iload_n 1, 1) := by decide +kernel
theorem dX6_hours_2 : decode cX6_hours 2 = .ok (.invokevirtual 99, 3) := by decide +kernel
theorem dX6_hours_5 : decode cX6_hours 5 = .ok (.astore_n 2, 1) := by decide +kernel
theorem dX6_hours_6 : decode cX6_hours 6 = .ok (.iconst 0, 1) := by decide +kernel
theorem dX6_hours_7 : decode cX6_hours 7 = .ok (.istore_n 3, 1) := by decide +kernel
theorem dX6_hours_8 : decode cX6_hours 8 = .ok (.iconst 0, 1) := by decide +kernel
theorem dX6_hours_9 : decode cX6_hours 9 = .ok (.istore 4, 2) := by decide +kernel
theorem dX6_hours_11 : decode cX6_hours 11 = .ok (.iload 4, 2) := by decide +kernel
theorem dX6_hours_13 : decode cX6_hours 13 = .ok (.sipush 672, 3) := by decide +kernel
theorem dX6_hours_16 : decode cX6_hours 16 = .ok (.if_icmp .ge 21, 3) := by decide +kernel
theorem dX6_hours_19 : decode cX6_hours 19 = .ok (.aload_n 2, 1) := by decide +kernel
theorem dX6_hours_20 : decode cX6_hours 20 = .ok (.iload 4, 2) := by decide +kernel
theorem dX6_hours_22 : decode cX6_hours 22 = .ok (.invokevirtual 114, 3) := by decide +kernel
theorem dX6_hours_25 : decode cX6_hours 25 = .ok (.ifCond .eq 6, 3) := by decide +kernel
theorem dX6_hours_28 : decode cX6_hours 28 = .ok (.iinc 3 1, 3) := by decide +kernel
theorem dX6_hours_31 : decode cX6_hours 31 = .ok (.iinc 4 1, 3) := by decide +kernel
theorem dX6_hours_34 : decode cX6_hours 34 = .ok (.goto (-23), 3) := by decide +kernel
theorem dX6_hours_37 : decode cX6_hours 37 = .ok (.iload_n 3, 1) := by decide +kernel
theorem dX6_hours_38 : decode cX6_hours 38 = .ok (.ireturn, 1) := by decide +kernel
theorem dX6_nextSpan_0 : decode cX6_nextSpan 0 = .ok (.aload_n 0, 1) := by decide +kernel
theorem dX6_nextSpan_1 : decode cX6_nextSpan 1 = .ok (.iload_n 1, 1) := by decide +kernel
theorem dX6_nextSpan_2 : decode cX6_nextSpan 2 = .ok (.invokevirtual 43, 3) := by decide +kernel
theorem dX6_nextSpan_5 : decode cX6_nextSpan 5 = .ok (.iload_n 2, 1) := by decide +kernel
theorem dX6_nextSpan_6 : decode cX6_nextSpan 6 = .ok (.iconst 0, 1) := by decide +kernel
theorem dX6_nextSpan_7 : decode cX6_nextSpan 7 = .ok (.sipush 671, 3) := by decide +kernel
theorem dX6_nextSpan_10 : decode cX6_nextSpan 10 = .ok (.invokestatic 58, 3) := by decide +kernel
theorem dX6_nextSpan_13 : decode cX6_nextSpan 13 = .ok (.iload_n 3, 1) := by decide +kernel
theorem dX6_nextSpan_14 : decode cX6_nextSpan 14 = .ok (.iconst 1, 1) := by decide +kernel
theorem dX6_nextSpan_15 : decode cX6_nextSpan 15 = .ok (.bipush 100, 2) := by decide +kernel
theorem dX6_nextSpan_17 : decode cX6_nextSpan 17 = .ok (.invokestatic 58, 3) := by decide +kernel
theorem dX6_nextSpan_20 : decode cX6_nextSpan 20 = .ok (.aload_n 0, 1) := by decide +kernel
theorem dX6_nextSpan_21 : decode cX6_nextSpan 21 = .ok (.iload_n 1, 1) := by decide +kernel
theorem dX6_nextSpan_22 : decode cX6_nextSpan 22 = .ok (.invokevirtual 106, 3) := by decide +kernel
theorem dX6_nextSpan_25 : decode cX6_nextSpan 25 = .ok (.istore 4, 2) := by decide +kernel
theorem dX6_nextSpan_27 : decode cX6_nextSpan 27 = .ok (.iconst 0, 1) := by decide +kernel
theorem dX6_nextSpan_28 : decode cX6_nextSpan 28 = .ok (.istore 5, 2) := by decide +kernel
theorem dX6_nextSpan_30 : decode cX6_nextSpan 30 = .ok (.iload_n 2, 1) := by decide +kernel
theorem dX6_nextSpan_31 : decode cX6_nextSpan 31 = .ok (.istore 6, 2) := by decide +kernel
theorem dX6_nextSpan_33 : decode cX6_nextSpan 33 = .ok (.iload 6, 2) := by decide +kernel
theorem dX6_nextSpan_35 : decode cX6_nextSpan 35 = .ok (.sipush 672, 3) := by decide +kernel
theorem dX6_nextSpan_38 : decode cX6_nextSpan 38 = .ok (.if_icmp .ge 43, 3) := by decide +kernel
theorem dX6_nextSpan_41 : decode cX6_nextSpan 41 = .ok (.aload_n 0, 1) := by decide +kernel
theorem dX6_nextSpan_42 : decode cX6_nextSpan 42 = .ok (.iload 4, 2) := by decide +kernel
theorem dX6_nextSpan_44 : decode cX6_nextSpan 44 = .ok (.iload 6, 2) := by decide +kernel
theorem dX6_nextSpan_46 : decode cX6_nextSpan 46 = .ok (.invokevirtual 110, 3) := by decide +kernel
theorem dX6_nextSpan_49 : decode cX6_nextSpan 49 = .ok (.ifCond .ne 10, 3) := by decide +kernel
theorem dX6_nextSpan_52 : decode cX6_nextSpan 52 = .ok (.iload 5, 2) := by decide +kernel
theorem dX6_nextSpan_54 : decode cX6_nextSpan 54 = .ok (.iconst 1, 1) := by decide +kernel
theorem dX6_nextSpan_55 : decode cX6_nextSpan 55 = .ok (.iadd, 1) := by decide +kernel
theorem dX6_nextSpan_56 : decode cX6_nextSpan 56 = .ok (.goto 4, 3) := by decide +kernel
theorem dX6_nextSpan_59 : decode cX6_nextSpan 59 = .ok (.iconst 0, 1) := by decide +kernel
theorem dX6_nextSpan_60 : decode cX6_nextSpan 60 = .ok (.istore 5, 2) := by decide +kernel
theorem dX6_nextSpan_62 : decode cX6_nextSpan 62 = .ok (.iload 5, 2) := by decide +kernel
theorem dX6_nextSpan_64 : decode cX6_nextSpan 64 = .ok (.iload_n 3, 1) := by decide +kernel
theorem dX6_nextSpan_65 : decode cX6_nextSpan 65 = .ok (.if_icmp .ne 10, 3) := by decide +kernel
theorem dX6_nextSpan_68 : decode cX6_nextSpan 68 = .ok (.iload 6, 2) := by decide +kernel
theorem dX6_nextSpan_70 : decode cX6_nextSpan 70 = .ok (.iload_n 3, 1) := by decide +kernel
theorem dX6_nextSpan_71 : decode cX6_nextSpan 71 = .ok (.isub, 1) := by decide +kernel
theorem dX6_nextSpan_72 : decode cX6_nextSpan 72 = .ok (.iconst 1, 1) := by decide +kernel
theorem dX6_nextSpan_73 : decode cX6_nextSpan 73 = .ok (.iadd, 1) := by decide +kernel
theorem dX6_nextSpan_74 : decode cX6_nextSpan 74 = .ok (.ireturn, 1) := by decide +kernel
theorem dX6_nextSpan_75 : decode cX6_nextSpan 75 = .ok (.iinc 6 1, 3) := by decide +kernel
theorem dX6_nextSpan_78 : decode cX6_nextSpan 78 = .ok (.goto (-45), 3) := by decide +kernel
theorem dX6_nextSpan_81 : decode cX6_nextSpan 81 = .ok (.iconst (-1), 1) := by decide +kernel
theorem dX6_nextSpan_82 : decode cX6_nextSpan 82 = .ok (.ireturn, 1) := by decide +kernel
theorem dX6_plan_0 : decode cX6_plan 0 = .ok (.aload_n 0, 1) := by decide +kernel
theorem dX6_plan_1 : decode cX6_plan 1 = .ok (.iload_n 1, 1) := by decide +kernel
theorem dX6_plan_2 : decode cX6_plan 2 = .ok (.invokevirtual 43, 3) := by decide +kernel
theorem dX6_plan_5 : decode cX6_plan 5 = .ok (.iload_n 3, 1) := by decide +kernel
theorem dX6_plan_6 : decode cX6_plan 6 = .ok (.iconst 1, 1) := by decide +kernel
theorem dX6_plan_7 : decode cX6_plan 7 = .ok (.bipush 100, 2) := by decide +kernel
theorem dX6_plan_9 : decode cX6_plan 9 = .ok (.invokestatic 58, 3) := by decide +kernel
theorem dX6_plan_12 : decode cX6_plan 12 = .ok (.iload_n 2, 1) := by decide +kernel
theorem dX6_plan_13 : decode cX6_plan 13 = .ok (.aload_n 0, 1) := by decide +kernel
theorem dX6_plan_14 : decode cX6_plan 14 = .ok (.getfield 72, 3) := by decide +kernel
theorem dX6_plan_17 : decode cX6_plan 17 = .ok (.sipush 672, 3) := by decide +kernel
theorem dX6_plan_20 : decode cX6_plan 20 = .ok (.iload_n 3, 1) := by decide +kernel
theorem dX6_plan_21 : decode cX6_plan 21 = .ok (.isub, 1) := by decide +kernel
theorem dX6_plan_22 : decode cX6_plan 22 = .ok (.invokestatic 58, 3) := by decide +kernel
theorem dX6_plan_25 : decode cX6_plan 25 = .ok (.iload 4, 2) := by decide +kernel
theorem dX6_plan_27 : decode cX6_plan 27 = .ok (.iconst 1, 1) := by decide +kernel
theorem dX6_plan_28 : decode cX6_plan 28 = .ok (.iconst 3, 1) := by decide +kernel
theorem dX6_plan_29 : decode cX6_plan 29 = .ok (.invokestatic 58, 3) := by decide +kernel
theorem dX6_plan_32 : decode cX6_plan 32 = .ok (.aload_n 0, 1) := by decide +kernel
theorem dX6_plan_33 : decode cX6_plan 33 = .ok (.getfield 117, 3) := by decide +kernel
theorem dX6_plan_36 : decode cX6_plan 36 = .ok (.bipush 30, 2) := by decide +kernel
theorem dX6_plan_38 : decode cX6_plan 38 = .ok (.if_icmp .lt 13, 3) := by decide +kernel
theorem dX6_plan_41 : decode cX6_plan 41 = .ok (.new 47, 3) := by decide +kernel
theorem dX6_plan_44 : decode cX6_plan 44 = .ok (.dup, 1) := by decide +kernel
theorem dX6_plan_45 : decode cX6_plan 45 = .ok (.ldc 120, 2) := by decide +kernel
theorem dX6_plan_47 : decode cX6_plan 47 = .ok (.invokespecial 51, 3) := by decide +kernel
theorem dX6_plan_50 : decode cX6_plan 50 = .ok (.athrow, 1) := by decide +kernel
theorem dX6_plan_51 : decode cX6_plan 51 = .ok (.aload_n 0, 1) := by decide +kernel
theorem dX6_plan_52 : decode cX6_plan 52 = .ok (.getfield 117, 3) := by decide +kernel
theorem dX6_plan_55 : decode cX6_plan 55 = .ok (.istore 5, 2) := by decide +kernel
theorem dX6_plan_57 : decode cX6_plan 57 = .ok (.aload_n 0, 1) := by decide +kernel
theorem dX6_plan_58 : decode cX6_plan 58 = .ok (.getfield 27, 3) := by decide +kernel
theorem dX6_plan_61 : decode cX6_plan 61 = .ok (.iload 5, 2) := by decide +kernel
theorem dX6_plan_63 : decode cX6_plan 63 = .ok (.new 25, 3) := by decide +kernel
theorem dX6_plan_66 : decode cX6_plan 66 = .ok (.dup, 1) := by decide +kernel
theorem dX6_plan_67 : decode cX6_plan 67 = .ok (.iload_n 1, 1) := by decide +kernel
theorem dX6_plan_68 : decode cX6_plan 68 = .ok (.iload_n 2, 1) := by decide +kernel
theorem dX6_plan_69 : decode cX6_plan 69 = .ok (.iload_n 3, 1) := by decide +kernel
theorem dX6_plan_70 : decode cX6_plan 70 = .ok (.iload 4, 2) := by decide +kernel
theorem dX6_plan_72 : decode cX6_plan 72 = .ok (.invokespecial 122, 3) := by decide +kernel
theorem dX6_plan_75 : decode cX6_plan 75 = .ok (.aastore, 1) := by decide +kernel
theorem dX6_plan_76 : decode cX6_plan 76 = .ok (.aload_n 0, 1) := by decide +kernel
theorem dX6_plan_77 : decode cX6_plan 77 = .ok (.iload 5, 2) := by decide +kernel
theorem dX6_plan_79 : decode cX6_plan 79 = .ok (.iconst 1, 1) := by decide +kernel
theorem dX6_plan_80 : decode cX6_plan 80 = .ok (.iadd, 1) := by decide +kernel
theorem dX6_plan_81 : decode cX6_plan 81 = .ok (.putfield 117, 3) := by decide +kernel
theorem dX6_plan_84 : decode cX6_plan 84 = .ok (.iload 5, 2) := by decide +kernel
theorem dX6_plan_86 : decode cX6_plan 86 = .ok (.ireturn, 1) := by decide +kernel
theorem dX6_move_0 : decode cX6_move 0 = .ok (.aload_n 0, 1) := by decide +kernel
theorem dX6_move_1 : decode cX6_move 1 = .ok (.iload_n 1, 1) := by decide +kernel
theorem dX6_move_2 : decode cX6_move 2 = .ok (.invokevirtual 123, 3) := by decide +kernel
theorem dX6_move_5 : decode cX6_move 5 = .ok (.astore_n 3, 1) := by decide +kernel
theorem dX6_move_6 : decode cX6_move 6 = .ok (.iload_n 2, 1) := by decide +kernel
theorem dX6_move_7 : decode cX6_move 7 = .ok (.aload_n 0, 1) := by decide +kernel
theorem dX6_move_8 : decode cX6_move 8 = .ok (.getfield 72, 3) := by decide +kernel
theorem dX6_move_11 : decode cX6_move 11 = .ok (.sipush 672, 3) := by decide +kernel
theorem dX6_move_14 : decode cX6_move 14 = .ok (.aload_n 3, 1) := by decide +kernel
theorem dX6_move_15 : decode cX6_move 15 = .ok (.getfield 127, 3) := by decide +kernel
theorem dX6_move_18 : decode cX6_move 18 = .ok (.isub, 1) := by decide +kernel
theorem dX6_move_19 : decode cX6_move 19 = .ok (.invokestatic 58, 3) := by decide +kernel
theorem dX6_move_22 : decode cX6_move 22 = .ok (.aload_n 3, 1) := by decide +kernel
theorem dX6_move_23 : decode cX6_move 23 = .ok (.invokestatic 130, 3) := by decide +kernel
theorem dX6_move_26 : decode cX6_move 26 = .ok (.aload_n 3, 1) := by decide +kernel
theorem dX6_move_27 : decode cX6_move 27 = .ok (.iload_n 2, 1) := by decide +kernel
theorem dX6_move_28 : decode cX6_move 28 = .ok (.putfield 134, 3) := by decide +kernel
theorem dX6_move_31 : decode cX6_move 31 = .ok (.aload_n 3, 1) := by decide +kernel
theorem dX6_move_32 : decode cX6_move 32 = .ok (.iconst 0, 1) := by decide +kernel
theorem dX6_move_33 : decode cX6_move 33 = .ok (.putfield 137, 3) := by decide +kernel
theorem dX6_move_36 : decode cX6_move 36 = .ok (.aload_n 3, 1) := by decide +kernel
theorem dX6_move_37 : decode cX6_move 37 = .ok (.iconst 0, 1) := by decide +kernel
theorem dX6_move_38 : decode cX6_move 38 = .ok (.putfield 140, 3) := by decide +kernel
theorem dX6_move_41 : decode cX6_move 41 = .ok (.aload_n 0, 1) := by decide +kernel
theorem dX6_move_42 : decode cX6_move 42 = .ok (.aload_n 3, 1) := by decide +kernel
theorem dX6_move_43 : decode cX6_move 43 = .ok (.invokevirtual 143, 3) := by decide +kernel
theorem dX6_move_46 : decode cX6_move 46 = .ok (.ireturn, 1) := by decide +kernel
theorem dX6_approve_0 : decode cX6_approve 0 = .ok (.aload_n 0, 1) := by decide +kernel
theorem dX6_approve_1 : decode cX6_approve 1 = .ok (.iload_n 1, 1) := by decide +kernel
theorem dX6_approve_2 : decode cX6_approve 2 = .ok (.invokevirtual 123, 3) := by decide +kernel
theorem dX6_approve_5 : decode cX6_approve 5 = .ok (.astore_n 2, 1) := by decide +kernel
theorem dX6_approve_6 : decode cX6_approve 6 = .ok (.aload_n 2, 1) := by decide +kernel
theorem dX6_approve_7 : decode cX6_approve 7 = .ok (.invokestatic 130, 3) := by decide +kernel
theorem dX6_approve_10 : decode cX6_approve 10 = .ok (.aload_n 2, 1) := by decide +kernel
theorem dX6_approve_11 : decode cX6_approve 11 = .ok (.getfield 137, 3) := by decide +kernel
theorem dX6_approve_14 : decode cX6_approve 14 = .ok (.aload_n 2, 1) := by decide +kernel
theorem dX6_approve_15 : decode cX6_approve 15 = .ok (.getfield 147, 3) := by decide +kernel
theorem dX6_approve_18 : decode cX6_approve 18 = .ok (.if_icmp .lt 13, 3) := by decide +kernel
theorem dX6_approve_21 : decode cX6_approve 21 = .ok (.new 47, 3) := by decide +kernel
theorem dX6_approve_24 : decode cX6_approve 24 = .ok (.dup, 1) := by decide +kernel
theorem dX6_approve_25 : decode cX6_approve 25 = .ok (.ldc 150, 2) := by decide +kernel
theorem dX6_approve_27 : decode cX6_approve 27 = .ok (.invokespecial 51, 3) := by decide +kernel
theorem dX6_approve_30 : decode cX6_approve 30 = .ok (.athrow, 1) := by decide +kernel
theorem dX6_approve_31 : decode cX6_approve 31 = .ok (.aload_n 2, 1) := by decide +kernel
theorem dX6_approve_32 : decode cX6_approve 32 = .ok (.dup, 1) := by decide +kernel
theorem dX6_approve_33 : decode cX6_approve 33 = .ok (.getfield 137, 3) := by decide +kernel
theorem dX6_approve_36 : decode cX6_approve 36 = .ok (.iconst 1, 1) := by decide +kernel
theorem dX6_approve_37 : decode cX6_approve 37 = .ok (.iadd, 1) := by decide +kernel
theorem dX6_approve_38 : decode cX6_approve 38 = .ok (.putfield 137, 3) := by decide +kernel
theorem dX6_approve_41 : decode cX6_approve 41 = .ok (.aload_n 2, 1) := by decide +kernel
theorem dX6_approve_42 : decode cX6_approve 42 = .ok (.getfield 137, 3) := by decide +kernel
theorem dX6_approve_45 : decode cX6_approve 45 = .ok (.ireturn, 1) := by decide +kernel
theorem dX6_begin_0 : decode cX6_begin 0 = .ok (.aload_n 0, 1) := by decide +kernel
theorem dX6_begin_1 : decode cX6_begin 1 = .ok (.iload_n 1, 1) := by decide +kernel
theorem dX6_begin_2 : decode cX6_begin 2 = .ok (.invokevirtual 123, 3) := by decide +kernel
theorem dX6_begin_5 : decode cX6_begin 5 = .ok (.astore_n 2, 1) := by decide +kernel
theorem dX6_begin_6 : decode cX6_begin 6 = .ok (.aload_n 2, 1) := by decide +kernel
theorem dX6_begin_7 : decode cX6_begin 7 = .ok (.invokestatic 130, 3) := by decide +kernel
theorem dX6_begin_10 : decode cX6_begin 10 = .ok (.aload_n 2, 1) := by decide +kernel
theorem dX6_begin_11 : decode cX6_begin 11 = .ok (.getfield 134, 3) := by decide +kernel
theorem dX6_begin_14 : decode cX6_begin 14 = .ok (.aload_n 0, 1) := by decide +kernel
theorem dX6_begin_15 : decode cX6_begin 15 = .ok (.getfield 72, 3) := by decide +kernel
theorem dX6_begin_18 : decode cX6_begin 18 = .ok (.if_icmp .eq 13, 3) := by decide +kernel
theorem dX6_begin_21 : decode cX6_begin 21 = .ok (.new 47, 3) := by decide +kernel
theorem dX6_begin_24 : decode cX6_begin 24 = .ok (.dup, 1) := by decide +kernel
theorem dX6_begin_25 : decode cX6_begin 25 = .ok (.ldc 152, 2) := by decide +kernel
theorem dX6_begin_27 : decode cX6_begin 27 = .ok (.invokespecial 51, 3) := by decide +kernel
theorem dX6_begin_30 : decode cX6_begin 30 = .ok (.athrow, 1) := by decide +kernel
theorem dX6_begin_31 : decode cX6_begin 31 = .ok (.aload_n 2, 1) := by decide +kernel
theorem dX6_begin_32 : decode cX6_begin 32 = .ok (.getfield 137, 3) := by decide +kernel
theorem dX6_begin_35 : decode cX6_begin 35 = .ok (.aload_n 2, 1) := by decide +kernel
theorem dX6_begin_36 : decode cX6_begin 36 = .ok (.getfield 147, 3) := by decide +kernel
theorem dX6_begin_39 : decode cX6_begin 39 = .ok (.if_icmp .ge 13, 3) := by decide +kernel
theorem dX6_begin_42 : decode cX6_begin 42 = .ok (.new 47, 3) := by decide +kernel
theorem dX6_begin_45 : decode cX6_begin 45 = .ok (.dup, 1) := by decide +kernel
theorem dX6_begin_46 : decode cX6_begin 46 = .ok (.ldc 154, 2) := by decide +kernel
theorem dX6_begin_48 : decode cX6_begin 48 = .ok (.invokespecial 51, 3) := by decide +kernel
theorem dX6_begin_51 : decode cX6_begin 51 = .ok (.athrow, 1) := by decide +kernel
theorem dX6_begin_52 : decode cX6_begin 52 = .ok (.aload_n 0, 1) := by decide +kernel
theorem dX6_begin_53 : decode cX6_begin 53 = .ok (.aload_n 2, 1) := by decide +kernel
theorem dX6_begin_54 : decode cX6_begin 54 = .ok (.invokevirtual 156, 3) := by decide +kernel
theorem dX6_begin_57 : decode cX6_begin 57 = .ok (.iconst (-1), 1) := by decide +kernel
theorem dX6_begin_58 : decode cX6_begin 58 = .ok (.if_icmp .eq 13, 3) := by decide +kernel
theorem dX6_begin_61 : decode cX6_begin 61 = .ok (.new 47, 3) := by decide +kernel
theorem dX6_begin_64 : decode cX6_begin 64 = .ok (.dup, 1) := by decide +kernel
theorem dX6_begin_65 : decode cX6_begin 65 = .ok (.ldc 159, 2) := by decide +kernel
theorem dX6_begin_67 : decode cX6_begin 67 = .ok (.invokespecial 51, 3) := by decide +kernel
theorem dX6_begin_70 : decode cX6_begin 70 = .ok (.athrow, 1) := by decide +kernel
theorem dX6_begin_71 : decode cX6_begin 71 = .ok (.aload_n 2, 1) := by decide +kernel
theorem dX6_begin_72 : decode cX6_begin 72 = .ok (.iconst 1, 1) := by decide +kernel
theorem dX6_begin_73 : decode cX6_begin 73 = .ok (.putfield 161, 3) := by decide +kernel
theorem dX6_begin_76 : decode cX6_begin 76 = .ok (.aload_n 2, 1) := by decide +kernel
theorem dX6_begin_77 : decode cX6_begin 77 = .ok (.aload_n 0, 1) := by decide +kernel
theorem dX6_begin_78 : decode cX6_begin 78 = .ok (.getfield 165, 3) := by decide +kernel
theorem dX6_begin_81 : decode cX6_begin 81 = .ok (.putfield 168, 3) := by decide +kernel
theorem dX6_begin_84 : decode cX6_begin 84 = .ok (.aload_n 2, 1) := by decide +kernel
theorem dX6_begin_85 : decode cX6_begin 85 = .ok (.invokevirtual 171, 3) := by decide +kernel
theorem dX6_begin_88 : decode cX6_begin 88 = .ok (.ireturn, 1) := by decide +kernel
theorem dX6_state_0 : decode cX6_state 0 = .ok (.aload_n 0, 1) := by decide +kernel
theorem dX6_state_1 : decode cX6_state 1 = .ok (.iload_n 1, 1) := by decide +kernel
theorem dX6_state_2 : decode cX6_state 2 = .ok (.invokevirtual 123, 3) := by decide +kernel
theorem dX6_state_5 : decode cX6_state 5 = .ok (.astore_n 2, 1) := by decide +kernel
theorem dX6_state_6 : decode cX6_state 6 = .ok (.aload_n 2, 1) := by decide +kernel
theorem dX6_state_7 : decode cX6_state 7 = .ok (.getfield 161, 3) := by decide +kernel
theorem dX6_state_10 : decode cX6_state 10 = .ok (.ifCond .ne 5, 3) := by decide +kernel
theorem dX6_state_13 : decode cX6_state 13 = .ok (.iconst 0, 1) := by decide +kernel
theorem dX6_state_14 : decode cX6_state 14 = .ok (.ireturn, 1) := by decide +kernel
theorem dX6_state_15 : decode cX6_state 15 = .ok (.aload_n 0, 1) := by decide +kernel
theorem dX6_state_16 : decode cX6_state 16 = .ok (.getfield 72, 3) := by decide +kernel
theorem dX6_state_19 : decode cX6_state 19 = .ok (.aload_n 2, 1) := by decide +kernel
theorem dX6_state_20 : decode cX6_state 20 = .ok (.invokevirtual 171, 3) := by decide +kernel
theorem dX6_state_23 : decode cX6_state 23 = .ok (.if_icmp .ge 7, 3) := by decide +kernel
theorem dX6_state_26 : decode cX6_state 26 = .ok (.iconst 1, 1) := by decide +kernel
theorem dX6_state_27 : decode cX6_state 27 = .ok (.goto 4, 3) := by decide +kernel
theorem dX6_state_30 : decode cX6_state 30 = .ok (.iconst 2, 1) := by decide +kernel
theorem dX6_state_31 : decode cX6_state 31 = .ok (.ireturn, 1) := by decide +kernel
theorem dX6_approved_0 : decode cX6_approved 0 = .ok (.aload_n 0, 1) := by decide +kernel
theorem dX6_approved_1 : decode cX6_approved 1 = .ok (.iload_n 1, 1) := by decide +kernel
theorem dX6_approved_2 : decode cX6_approved 2 = .ok (.invokevirtual 123, 3) := by decide +kernel
theorem dX6_approved_5 : decode cX6_approved 5 = .ok (.getfield 137, 3) := by decide +kernel
theorem dX6_approved_8 : decode cX6_approved 8 = .ok (.ireturn, 1) := by decide +kernel
theorem dX6_exceptions_0 : decode cX6_exceptions 0 = .ok (.iload_n 1, 1) := by decide +kernel
theorem dX6_exceptions_1 : decode cX6_exceptions 1 = .ok (.iconst 1, 1) := by decide +kernel
theorem dX6_exceptions_2 : decode cX6_exceptions 2 = .ok (.iconst 3, 1) := by decide +kernel
theorem dX6_exceptions_3 : decode cX6_exceptions 3 = .ok (.invokestatic 58, 3) := by decide +kernel
theorem dX6_exceptions_6 : decode cX6_exceptions 6 = .ok (.iload_n 2, 1) := by decide +kernel
theorem dX6_exceptions_7 : decode cX6_exceptions 7 = .ok (.iconst 0, 1) := by decide +kernel
theorem dX6_exceptions_8 : decode cX6_exceptions 8 = .ok (.bipush 50, 2) := by decide +kernel
theorem dX6_exceptions_10 : decode cX6_exceptions 10 = .ok (.invokestatic 58, 3) := by decide +kernel
theorem dX6_exceptions_13 : decode cX6_exceptions 13 = .ok (.aload_n 0, 1) := by decide +kernel
theorem dX6_exceptions_14 : decode cX6_exceptions 14 = .ok (.getfield 31, 3) := by decide +kernel
theorem dX6_exceptions_17 : decode cX6_exceptions 17 = .ok (.iload_n 1, 1) := by decide +kernel
theorem dX6_exceptions_18 : decode cX6_exceptions 18 = .ok (.iaload, 1) := by decide +kernel
theorem dX6_exceptions_19 : decode cX6_exceptions 19 = .ok (.istore_n 3, 1) := by decide +kernel
theorem dX6_exceptions_20 : decode cX6_exceptions 20 = .ok (.aload_n 0, 1) := by decide +kernel
theorem dX6_exceptions_21 : decode cX6_exceptions 21 = .ok (.getfield 31, 3) := by decide +kernel
theorem dX6_exceptions_24 : decode cX6_exceptions 24 = .ok (.iload_n 1, 1) := by decide +kernel
theorem dX6_exceptions_25 : decode cX6_exceptions 25 = .ok (.iload_n 2, 1) := by decide +kernel
theorem dX6_exceptions_26 : decode cX6_exceptions 26 = .ok (.iastore, 1) := by decide +kernel
theorem dX6_exceptions_27 : decode cX6_exceptions 27 = .ok (.iload_n 3, 1) := by decide +kernel
theorem dX6_exceptions_28 : decode cX6_exceptions 28 = .ok (.ireturn, 1) := by decide +kernel
theorem dX6_left_0 : decode cX6_left 0 = .ok (.iload_n 1, 1) := by decide +kernel
theorem dX6_left_1 : decode cX6_left 1 = .ok (.iconst 1, 1) := by decide +kernel
theorem dX6_left_2 : decode cX6_left 2 = .ok (.iconst 3, 1) := by decide +kernel
theorem dX6_left_3 : decode cX6_left 3 = .ok (.invokestatic 58, 3) := by decide +kernel
theorem dX6_left_6 : decode cX6_left 6 = .ok (.aload_n 0, 1) := by decide +kernel
theorem dX6_left_7 : decode cX6_left 7 = .ok (.getfield 31, 3) := by decide +kernel
theorem dX6_left_10 : decode cX6_left 10 = .ok (.iload_n 1, 1) := by decide +kernel
theorem dX6_left_11 : decode cX6_left 11 = .ok (.iaload, 1) := by decide +kernel
theorem dX6_left_12 : decode cX6_left 12 = .ok (.ireturn, 1) := by decide +kernel
theorem dX6_excuse_0 : decode cX6_excuse 0 = .ok (.aload_n 0, 1) := by decide +kernel
theorem dX6_excuse_1 : decode cX6_excuse 1 = .ok (.iload_n 1, 1) := by decide +kernel
theorem dX6_excuse_2 : decode cX6_excuse 2 = .ok (.invokevirtual 123, 3) := by decide +kernel
theorem dX6_excuse_5 : decode cX6_excuse 5 = .ok (.astore_n 3, 1) := by decide +kernel
theorem dX6_excuse_6 : decode cX6_excuse 6 = .ok (.aload_n 0, 1) := by decide +kernel
theorem dX6_excuse_7 : decode cX6_excuse 7 = .ok (.iload_n 2, 1) := by decide +kernel
theorem dX6_excuse_8 : decode cX6_excuse 8 = .ok (.invokevirtual 99, 3) := by decide +kernel
theorem dX6_excuse_11 : decode cX6_excuse 11 = .ok (.astore 4, 2) := by decide +kernel
theorem dX6_excuse_13 : decode cX6_excuse 13 = .ok (.aload_n 0, 1) := by decide +kernel
theorem dX6_excuse_14 : decode cX6_excuse 14 = .ok (.aload_n 3, 1) := by decide +kernel
theorem dX6_excuse_15 : decode cX6_excuse 15 = .ok (.invokevirtual 175, 3) := by decide +kernel
theorem dX6_excuse_18 : decode cX6_excuse 18 = .ok (.iload_n 2, 1) := by decide +kernel
theorem dX6_excuse_19 : decode cX6_excuse 19 = .ok (.invokestatic 178, 3) := by decide +kernel
theorem dX6_excuse_22 : decode cX6_excuse 22 = .ok (.ifCond .ne 13, 3) := by decide +kernel
theorem dX6_excuse_25 : decode cX6_excuse 25 = .ok (.new 47, 3) := by decide +kernel
theorem dX6_excuse_28 : decode cX6_excuse 28 = .ok (.dup, 1) := by decide +kernel
theorem dX6_excuse_29 : decode cX6_excuse 29 = .ok (.ldc 182, 2) := by decide +kernel
theorem dX6_excuse_31 : decode cX6_excuse 31 = .ok (.invokespecial 51, 3) := by decide +kernel
theorem dX6_excuse_34 : decode cX6_excuse 34 = .ok (.athrow, 1) := by decide +kernel
theorem dX6_excuse_35 : decode cX6_excuse 35 = .ok (.aload_n 3, 1) := by decide +kernel
theorem dX6_excuse_36 : decode cX6_excuse 36 = .ok (.getfield 140, 3) := by decide +kernel
theorem dX6_excuse_39 : decode cX6_excuse 39 = .ok (.iload_n 2, 1) := by decide +kernel
theorem dX6_excuse_40 : decode cX6_excuse 40 = .ok (.invokestatic 178, 3) := by decide +kernel
theorem dX6_excuse_43 : decode cX6_excuse 43 = .ok (.ifCond .eq 13, 3) := by decide +kernel
theorem dX6_excuse_46 : decode cX6_excuse 46 = .ok (.new 47, 3) := by decide +kernel
