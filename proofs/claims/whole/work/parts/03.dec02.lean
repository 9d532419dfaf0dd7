theorem dX7_pass_31 : decode cX7_pass 31 = .ok (.iconst 0, 1) := by decide +kernel
theorem dX7_pass_32 : decode cX7_pass 32 = .ok (.putfield 69, 3) := by decide +kernel
theorem dX7_pass_35 : decode cX7_pass 35 = .ok (.aload_n 0, 1) := by decide +kernel
theorem dX7_pass_36 : decode cX7_pass 36 = .ok (.dup, 1) := by decide +kernel
theorem dX7_pass_37 : decode cX7_pass 37 = .ok (.getfield 83, 3) := by decide +kernel
theorem dX7_pass_40 : decode cX7_pass 40 = .ok (.aload_n 0, 1) := by decide +kernel
theorem dX7_pass_41 : decode cX7_pass 41 = .ok (.getfield 69, 3) := by decide +kernel
theorem dX7_pass_44 : decode cX7_pass 44 = .ok (.ifCond .le 7, 3) := by decide +kernel
theorem dX7_pass_47 : decode cX7_pass 47 = .ok (.iconst 0, 1) := by decide +kernel
theorem dX7_pass_48 : decode cX7_pass 48 = .ok (.goto 4, 3) := by decide +kernel
theorem dX7_pass_51 : decode cX7_pass 51 = .ok (.iload_n 1, 1) := by decide +kernel
theorem dX7_pass_52 : decode cX7_pass 52 = .ok (.iadd, 1) := by decide +kernel
theorem dX7_pass_53 : decode cX7_pass 53 = .ok (.putfield 83, 3) := by decide +kernel
theorem dX7_pass_56 : decode cX7_pass 56 = .ok (.aload_n 0, 1) := by decide +kernel
theorem dX7_pass_57 : decode cX7_pass 57 = .ok (.getfield 83, 3) := by decide +kernel
theorem dX7_pass_60 : decode cX7_pass 60 = .ok (.ireturn, 1) := by decide +kernel
theorem dX7_now_0 : decode cX7_now 0 = .ok (.aload_n 0, 1) := by decide +kernel
theorem dX7_now_1 : decode cX7_now 1 = .ok (.iconst 0, 1) := by decide +kernel
theorem dX7_now_2 : decode cX7_now 2 = .ok (.putfield 69, 3) := by decide +kernel
theorem dX7_now_5 : decode cX7_now 5 = .ok (.aload_n 0, 1) := by decide +kernel
theorem dX7_now_6 : decode cX7_now 6 = .ok (.getfield 83, 3) := by decide +kernel
theorem dX7_now_9 : decode cX7_now 9 = .ok (.ireturn, 1) := by decide +kernel
theorem dX7_lays_0 : decode cX7_lays 0 = .ok (.aload_n 0, 1) := by decide +kernel
theorem dX7_lays_1 : decode cX7_lays 1 = .ok (.getfield 27, 3) := by decide +kernel
theorem dX7_lays_4 : decode cX7_lays 4 = .ok (.aload_n 0, 1) := by decide +kernel
theorem dX7_lays_5 : decode cX7_lays 5 = .ok (.getfield 86, 3) := by decide +kernel
theorem dX7_lays_8 : decode cX7_lays 8 = .ok (.iload_n 1, 1) := by decide +kernel
theorem dX7_lays_9 : decode cX7_lays 9 = .ok (.iastore, 1) := by decide +kernel
theorem dX7_lays_10 : decode cX7_lays 10 = .ok (.aload_n 0, 1) := by decide +kernel
theorem dX7_lays_11 : decode cX7_lays 11 = .ok (.getfield 30, 3) := by decide +kernel
theorem dX7_lays_14 : decode cX7_lays 14 = .ok (.aload_n 0, 1) := by decide +kernel
theorem dX7_lays_15 : decode cX7_lays 15 = .ok (.getfield 86, 3) := by decide +kernel
theorem dX7_lays_18 : decode cX7_lays 18 = .ok (.iload_n 2, 1) := by decide +kernel
theorem dX7_lays_19 : decode cX7_lays 19 = .ok (.iastore, 1) := by decide +kernel
theorem dX7_lays_20 : decode cX7_lays 20 = .ok (.aload_n 0, 1) := by decide +kernel
theorem dX7_lays_21 : decode cX7_lays 21 = .ok (.getfield 33, 3) := by decide +kernel
theorem dX7_lays_24 : decode cX7_lays 24 = .ok (.aload_n 0, 1) := by decide +kernel
theorem dX7_lays_25 : decode cX7_lays 25 = .ok (.getfield 86, 3) := by decide +kernel
theorem dX7_lays_28 : decode cX7_lays 28 = .ok (.iload_n 3, 1) := by decide +kernel
theorem dX7_lays_29 : decode cX7_lays 29 = .ok (.iastore, 1) := by decide +kernel
theorem dX7_lays_30 : decode cX7_lays 30 = .ok (.aload_n 0, 1) := by decide +kernel
theorem dX7_lays_31 : decode cX7_lays 31 = .ok (.getfield 36, 3) := by decide +kernel
theorem dX7_lays_34 : decode cX7_lays 34 = .ok (.aload_n 0, 1) := by decide +kernel
theorem dX7_lays_35 : decode cX7_lays 35 = .ok (.getfield 86, 3) := by decide +kernel
theorem dX7_lays_38 : decode cX7_lays 38 = .ok (.iload 4, 2) := by decide +kernel
theorem dX7_lays_40 : decode cX7_lays 40 = .ok (.iastore, 1) := by decide +kernel
theorem dX7_lays_41 : decode cX7_lays 41 = .ok (.aload_n 0, 1) := by decide +kernel
theorem dX7_lays_42 : decode cX7_lays 42 = .ok (.getfield 39, 3) := by decide +kernel
theorem dX7_lays_45 : decode cX7_lays 45 = .ok (.aload_n 0, 1) := by decide +kernel
theorem dX7_lays_46 : decode cX7_lays 46 = .ok (.getfield 86, 3) := by decide +kernel
theorem dX7_lays_49 : decode cX7_lays 49 = .ok (.iload 5, 2) := by decide +kernel
theorem dX7_lays_51 : decode cX7_lays 51 = .ok (.iastore, 1) := by decide +kernel
theorem dX7_lays_52 : decode cX7_lays 52 = .ok (.aload_n 0, 1) := by decide +kernel
theorem dX7_lays_53 : decode cX7_lays 53 = .ok (.getfield 42, 3) := by decide +kernel
theorem dX7_lays_56 : decode cX7_lays 56 = .ok (.aload_n 0, 1) := by decide +kernel
theorem dX7_lays_57 : decode cX7_lays 57 = .ok (.getfield 86, 3) := by decide +kernel
theorem dX7_lays_60 : decode cX7_lays 60 = .ok (.iload 6, 2) := by decide +kernel
theorem dX7_lays_62 : decode cX7_lays 62 = .ok (.iastore, 1) := by decide +kernel
theorem dX7_lays_63 : decode cX7_lays 63 = .ok (.aload_n 0, 1) := by decide +kernel
theorem dX7_lays_64 : decode cX7_lays 64 = .ok (.dup, 1) := by decide +kernel
theorem dX7_lays_65 : decode cX7_lays 65 = .ok (.getfield 86, 3) := by decide +kernel
theorem dX7_lays_68 : decode cX7_lays 68 = .ok (.iconst 1, 1) := by decide +kernel
theorem dX7_lays_69 : decode cX7_lays 69 = .ok (.iadd, 1) := by decide +kernel
theorem dX7_lays_70 : decode cX7_lays 70 = .ok (.putfield 86, 3) := by decide +kernel
theorem dX7_lays_73 : decode cX7_lays 73 = .ok (.aload_n 0, 1) := by decide +kernel
theorem dX7_lays_74 : decode cX7_lays 74 = .ok (.getfield 86, 3) := by decide +kernel
theorem dX7_lays_77 : decode cX7_lays 77 = .ok (.iconst 1, 1) := by decide +kernel
theorem dX7_lays_78 : decode cX7_lays 78 = .ok (.isub, 1) := by decide +kernel
theorem dX7_lays_79 : decode cX7_lays 79 = .ok (.ireturn, 1) := by decide +kernel
theorem dX7_once_0 : decode cX7_once 0 = .ok (.iload_n 2, 1) := by decide +kernel
theorem dX7_once_1 : decode cX7_once 1 = .ok (.iconst 0, 1) := by decide +kernel
theorem dX7_once_2 : decode cX7_once 2 = .ok (.sipush 671, 3) := by decide +kernel
theorem dX7_once_5 : decode cX7_once 5 = .ok (.invokestatic 72, 3) := by decide +kernel
theorem dX7_once_8 : decode cX7_once 8 = .ok (.ifCond .eq 29, 3) := by decide +kernel
theorem dX7_once_11 : decode cX7_once 11 = .ok (.iload_n 3, 1) := by decide +kernel
theorem dX7_once_12 : decode cX7_once 12 = .ok (.iload_n 2, 1) := by decide +kernel
theorem dX7_once_13 : decode cX7_once 13 = .ok (.if_icmp .le 24, 3) := by decide +kernel
theorem dX7_once_16 : decode cX7_once 16 = .ok (.iload_n 3, 1) := by decide +kernel
theorem dX7_once_17 : decode cX7_once 17 = .ok (.sipush 672, 3) := by decide +kernel
theorem dX7_once_20 : decode cX7_once 20 = .ok (.if_icmp .gt 17, 3) := by decide +kernel
theorem dX7_once_23 : decode cX7_once 23 = .ok (.iload 4, 2) := by decide +kernel
theorem dX7_once_25 : decode cX7_once 25 = .ok (.iconst 1, 1) := by decide +kernel
theorem dX7_once_26 : decode cX7_once 26 = .ok (.iconst 3, 1) := by decide +kernel
theorem dX7_once_27 : decode cX7_once 27 = .ok (.invokestatic 72, 3) := by decide +kernel
theorem dX7_once_30 : decode cX7_once 30 = .ok (.ifCond .eq 7, 3) := by decide +kernel
theorem dX7_once_33 : decode cX7_once 33 = .ok (.iconst 1, 1) := by decide +kernel
theorem dX7_once_34 : decode cX7_once 34 = .ok (.goto 4, 3) := by decide +kernel
theorem dX7_once_37 : decode cX7_once 37 = .ok (.iconst 0, 1) := by decide +kernel
theorem dX7_once_38 : decode cX7_once 38 = .ok (.istore 5, 2) := by decide +kernel
theorem dX7_once_40 : decode cX7_once 40 = .ok (.aload_n 0, 1) := by decide +kernel
theorem dX7_once_41 : decode cX7_once 41 = .ok (.aload_n 0, 1) := by decide +kernel
theorem dX7_once_42 : decode cX7_once 42 = .ok (.iload_n 1, 1) := by decide +kernel
theorem dX7_once_43 : decode cX7_once 43 = .ok (.invokevirtual 76, 3) := by decide +kernel
theorem dX7_once_46 : decode cX7_once 46 = .ok (.ifCond .ne 7, 3) := by decide +kernel
theorem dX7_once_49 : decode cX7_once 49 = .ok (.iconst 1, 1) := by decide +kernel
theorem dX7_once_50 : decode cX7_once 50 = .ok (.goto 26, 3) := by decide +kernel
theorem dX7_once_53 : decode cX7_once 53 = .ok (.iload 5, 2) := by decide +kernel
theorem dX7_once_55 : decode cX7_once 55 = .ok (.ifCond .ne 7, 3) := by decide +kernel
theorem dX7_once_58 : decode cX7_once 58 = .ok (.iconst 2, 1) := by decide +kernel
theorem dX7_once_59 : decode cX7_once 59 = .ok (.goto 17, 3) := by decide +kernel
theorem dX7_once_62 : decode cX7_once 62 = .ok (.aload_n 0, 1) := by decide +kernel
theorem dX7_once_63 : decode cX7_once 63 = .ok (.getfield 86, 3) := by decide +kernel
theorem dX7_once_66 : decode cX7_once 66 = .ok (.bipush 20, 2) := by decide +kernel
theorem dX7_once_68 : decode cX7_once 68 = .ok (.if_icmp .ne 7, 3) := by decide +kernel
theorem dX7_once_71 : decode cX7_once 71 = .ok (.iconst 3, 1) := by decide +kernel
theorem dX7_once_72 : decode cX7_once 72 = .ok (.goto 4, 3) := by decide +kernel
theorem dX7_once_75 : decode cX7_once 75 = .ok (.iconst 0, 1) := by decide +kernel
theorem dX7_once_76 : decode cX7_once 76 = .ok (.putfield 69, 3) := by decide +kernel
theorem dX7_once_79 : decode cX7_once 79 = .ok (.aload_n 0, 1) := by decide +kernel
theorem dX7_once_80 : decode cX7_once 80 = .ok (.getfield 69, 3) := by decide +kernel
theorem dX7_once_83 : decode cX7_once 83 = .ok (.ifCond .le 7, 3) := by decide +kernel
theorem dX7_once_86 : decode cX7_once 86 = .ok (.iconst 0, 1) := by decide +kernel
theorem dX7_once_87 : decode cX7_once 87 = .ok (.goto 14, 3) := by decide +kernel
theorem dX7_once_90 : decode cX7_once 90 = .ok (.aload_n 0, 1) := by decide +kernel
theorem dX7_once_91 : decode cX7_once 91 = .ok (.iconst 0, 1) := by decide +kernel
theorem dX7_once_92 : decode cX7_once 92 = .ok (.iload_n 1, 1) := by decide +kernel
theorem dX7_once_93 : decode cX7_once 93 = .ok (.iconst 0, 1) := by decide +kernel
theorem dX7_once_94 : decode cX7_once 94 = .ok (.iload_n 2, 1) := by decide +kernel
theorem dX7_once_95 : decode cX7_once 95 = .ok (.iload_n 3, 1) := by decide +kernel
theorem dX7_once_96 : decode cX7_once 96 = .ok (.iload 4, 2) := by decide +kernel
theorem dX7_once_98 : decode cX7_once 98 = .ok (.invokevirtual 89, 3) := by decide +kernel
theorem dX7_once_101 : decode cX7_once 101 = .ok (.ireturn, 1) := by decide +kernel
theorem dX7_daily_0 : decode cX7_daily 0 = .ok (.iload_n 3, 1) := by decide +kernel
theorem dX7_daily_1 : decode cX7_daily 1 = .ok (.iconst 0, 1) := by decide +kernel
theorem dX7_daily_2 : decode cX7_daily 2 = .ok (.bipush 23, 2) := by decide +kernel
theorem dX7_daily_4 : decode cX7_daily 4 = .ok (.invokestatic 72, 3) := by decide +kernel
theorem dX7_daily_7 : decode cX7_daily 7 = .ok (.ifCond .eq 28, 3) := by decide +kernel
theorem dX7_daily_10 : decode cX7_daily 10 = .ok (.iload 4, 2) := by decide +kernel
theorem dX7_daily_12 : decode cX7_daily 12 = .ok (.iconst 0, 1) := by decide +kernel
theorem dX7_daily_13 : decode cX7_daily 13 = .ok (.bipush 23, 2) := by decide +kernel
theorem dX7_daily_15 : decode cX7_daily 15 = .ok (.invokestatic 72, 3) := by decide +kernel
theorem dX7_daily_18 : decode cX7_daily 18 = .ok (.ifCond .eq 17, 3) := by decide +kernel
theorem dX7_daily_21 : decode cX7_daily 21 = .ok (.iload 5, 2) := by decide +kernel
theorem dX7_daily_23 : decode cX7_daily 23 = .ok (.iconst 1, 1) := by decide +kernel
theorem dX7_daily_24 : decode cX7_daily 24 = .ok (.iconst 3, 1) := by decide +kernel
theorem dX7_daily_25 : decode cX7_daily 25 = .ok (.invokestatic 72, 3) := by decide +kernel
theorem dX7_daily_28 : decode cX7_daily 28 = .ok (.ifCond .eq 7, 3) := by decide +kernel
theorem dX7_daily_31 : decode cX7_daily 31 = .ok (.iconst 1, 1) := by decide +kernel
theorem dX7_daily_32 : decode cX7_daily 32 = .ok (.goto 4, 3) := by decide +kernel
theorem dX7_daily_35 : decode cX7_daily 35 = .ok (.iconst 0, 1) := by decide +kernel
theorem dX7_daily_36 : decode cX7_daily 36 = .ok (.istore 6, 2) := by decide +kernel
theorem dX7_daily_38 : decode cX7_daily 38 = .ok (.aload_n 0, 1) := by decide +kernel
theorem dX7_daily_39 : decode cX7_daily 39 = .ok (.aload_n 0, 1) := by decide +kernel
theorem dX7_daily_40 : decode cX7_daily 40 = .ok (.iload_n 1, 1) := by decide +kernel
theorem dX7_daily_41 : decode cX7_daily 41 = .ok (.invokevirtual 76, 3) := by decide +kernel
theorem dX7_daily_44 : decode cX7_daily 44 = .ok (.ifCond .eq 10, 3) := by decide +kernel
theorem dX7_daily_47 : decode cX7_daily 47 = .ok (.iload_n 2, 1) := by decide +kernel
theorem dX7_daily_48 : decode cX7_daily 48 = .ok (.invokestatic 80, 3) := by decide +kernel
theorem dX7_daily_51 : decode cX7_daily 51 = .ok (.ifCond .ne 7, 3) := by decide +kernel
theorem dX7_daily_54 : decode cX7_daily 54 = .ok (.iconst 1, 1) := by decide +kernel
theorem dX7_daily_55 : decode cX7_daily 55 = .ok (.goto 26, 3) := by decide +kernel
theorem dX7_daily_58 : decode cX7_daily 58 = .ok (.iload 6, 2) := by decide +kernel
theorem dX7_daily_60 : decode cX7_daily 60 = .ok (.ifCond .ne 7, 3) := by decide +kernel
theorem dX7_daily_63 : decode cX7_daily 63 = .ok (.iconst 2, 1) := by decide +kernel
theorem dX7_daily_64 : decode cX7_daily 64 = .ok (.goto 17, 3) := by decide +kernel
theorem dX7_daily_67 : decode cX7_daily 67 = .ok (.aload_n 0, 1) := by decide +kernel
theorem dX7_daily_68 : decode cX7_daily 68 = .ok (.getfield 86, 3) := by decide +kernel
theorem dX7_daily_71 : decode cX7_daily 71 = .ok (.bipush 20, 2) := by decide +kernel
theorem dX7_daily_73 : decode cX7_daily 73 = .ok (.if_icmp .ne 7, 3) := by decide +kernel
theorem dX7_daily_76 : decode cX7_daily 76 = .ok (.iconst 3, 1) := by decide +kernel
theorem dX7_daily_77 : decode cX7_daily 77 = .ok (.goto 4, 3) := by decide +kernel
theorem dX7_daily_80 : decode cX7_daily 80 = .ok (.iconst 0, 1) := by decide +kernel
theorem dX7_daily_81 : decode cX7_daily 81 = .ok (.putfield 69, 3) := by decide +kernel
theorem dX7_daily_84 : decode cX7_daily 84 = .ok (.aload_n 0, 1) := by decide +kernel
theorem dX7_daily_85 : decode cX7_daily 85 = .ok (.getfield 69, 3) := by decide +kernel
theorem dX7_daily_88 : decode cX7_daily 88 = .ok (.ifCond .le 7, 3) := by decide +kernel
theorem dX7_daily_91 : decode cX7_daily 91 = .ok (.iconst 0, 1) := by decide +kernel
theorem dX7_daily_92 : decode cX7_daily 92 = .ok (.goto 15, 3) := by decide +kernel
theorem dX7_daily_95 : decode cX7_daily 95 = .ok (.aload_n 0, 1) := by decide +kernel
theorem dX7_daily_96 : decode cX7_daily 96 = .ok (.iconst 1, 1) := by decide +kernel
theorem dX7_daily_97 : decode cX7_daily 97 = .ok (.iload_n 1, 1) := by decide +kernel
theorem dX7_daily_98 : decode cX7_daily 98 = .ok (.iload_n 2, 1) := by decide +kernel
theorem dX7_daily_99 : decode cX7_daily 99 = .ok (.iload_n 3, 1) := by decide +kernel
theorem dX7_daily_100 : decode cX7_daily 100 = .ok (.iload 4, 2) := by decide +kernel
theorem dX7_daily_102 : decode cX7_daily 102 = .ok (.iload 5, 2) := by decide +kernel
theorem dX7_daily_104 : decode cX7_daily 104 = .ok (.invokevirtual 89, 3) := by decide +kernel
theorem dX7_daily_107 : decode cX7_daily 107 = .ok (.ireturn, 1) := by decide +kernel
theorem dX7_feasts_0 : decode cX7_feasts 0 = .ok (.aload_n 0, 1) := by decide +kernel
theorem dX7_feasts_1 : decode cX7_feasts 1 = .ok (.aload_n 0, 1) := by decide +kernel
theorem dX7_feasts_2 : decode cX7_feasts 2 = .ok (.iload_n 1, 1) := by decide +kernel
theorem dX7_feasts_3 : decode cX7_feasts 3 = .ok (.invokevirtual 76, 3) := by decide +kernel
theorem dX7_feasts_6 : decode cX7_feasts 6 = .ok (.ifCond .eq 10, 3) := by decide +kernel
theorem dX7_feasts_9 : decode cX7_feasts 9 = .ok (.iload_n 2, 1) := by decide +kernel
theorem dX7_feasts_10 : decode cX7_feasts 10 = .ok (.invokestatic 80, 3) := by decide +kernel
theorem dX7_feasts_13 : decode cX7_feasts 13 = .ok (.ifCond .ne 7, 3) := by decide +kernel
theorem dX7_feasts_16 : decode cX7_feasts 16 = .ok (.iconst 1, 1) := by decide +kernel
theorem dX7_feasts_17 : decode cX7_feasts 17 = .ok (.goto 30, 3) := by decide +kernel
theorem dX7_feasts_20 : decode cX7_feasts 20 = .ok (.iload_n 3, 1) := by decide +kernel
theorem dX7_feasts_21 : decode cX7_feasts 21 = .ok (.iconst 1, 1) := by decide +kernel
theorem dX7_feasts_22 : decode cX7_feasts 22 = .ok (.iconst 3, 1) := by decide +kernel
theorem dX7_feasts_23 : decode cX7_feasts 23 = .ok (.invokestatic 72, 3) := by decide +kernel
theorem dX7_feasts_26 : decode cX7_feasts 26 = .ok (.ifCond .ne 7, 3) := by decide +kernel
theorem dX7_feasts_29 : decode cX7_feasts 29 = .ok (.iconst 2, 1) := by decide +kernel
theorem dX7_feasts_30 : decode cX7_feasts 30 = .ok (.goto 17, 3) := by decide +kernel
theorem dX7_feasts_33 : decode cX7_feasts 33 = .ok (.aload_n 0, 1) := by decide +kernel
theorem dX7_feasts_34 : decode cX7_feasts 34 = .ok (.getfield 86, 3) := by decide +kernel
theorem dX7_feasts_37 : decode cX7_feasts 37 = .ok (.bipush 20, 2) := by decide +kernel
theorem dX7_feasts_39 : decode cX7_feasts 39 = .ok (.if_icmp .ne 7, 3) := by decide +kernel
theorem dX7_feasts_42 : decode cX7_feasts 42 = .ok (.iconst 3, 1) := by decide +kernel
theorem dX7_feasts_43 : decode cX7_feasts 43 = .ok (.goto 4, 3) := by decide +kernel
theorem dX7_feasts_46 : decode cX7_feasts 46 = .ok (.iconst 0, 1) := by decide +kernel
theorem dX7_feasts_47 : decode cX7_feasts 47 = .ok (.putfield 69, 3) := by decide +kernel
theorem dX7_feasts_50 : decode cX7_feasts 50 = .ok (.aload_n 0, 1) := by decide +kernel
theorem dX7_feasts_51 : decode cX7_feasts 51 = .ok (.getfield 69, 3) := by decide +kernel
theorem dX7_feasts_54 : decode cX7_feasts 54 = .ok (.ifCond .le 7, 3) := by decide +kernel
theorem dX7_feasts_57 : decode cX7_feasts 57 = .ok (.iconst 0, 1) := by decide +kernel
theorem dX7_feasts_58 : decode cX7_feasts 58 = .ok (.goto 13, 3) := by decide +kernel
theorem dX7_feasts_61 : decode cX7_feasts 61 = .ok (.aload_n 0, 1) := by decide +kernel
theorem dX7_feasts_62 : decode cX7_feasts 62 = .ok (.iconst 2, 1) := by decide +kernel
theorem dX7_feasts_63 : decode cX7_feasts 63 = .ok (.iload_n 1, 1) := by decide +kernel
theorem dX7_feasts_64 : decode cX7_feasts 64 = .ok (.iload_n 2, 1) := by decide +kernel
theorem dX7_feasts_65 : decode cX7_feasts 65 = .ok (.iconst 0, 1) := by decide +kernel
theorem dX7_feasts_66 : decode cX7_feasts 66 = .ok (.iconst 0, 1) := by decide +kernel
theorem dX7_feasts_67 : decode cX7_feasts 67 = .ok (.iload_n 3, 1) := by decide +kernel
theorem dX7_feasts_68 : decode cX7_feasts 68 = .ok (.invokevirtual 89, 3) := by decide +kernel
theorem dX7_feasts_71 : decode cX7_feasts 71 = .ok (.ireturn, 1) := by decide +kernel
theorem dX7_isFreeze_0 : decode cX7_isFreeze 0 = .ok (.iload_n 1, 1) := by decide +kernel
theorem dX7_isFreeze_1 : decode cX7_isFreeze 1 = .ok (.iconst 0, 1) := by decide +kernel
theorem dX7_isFreeze_2 : decode cX7_isFreeze 2 = .ok (.aload_n 0, 1) := by decide +kernel
theorem dX7_isFreeze_3 : decode cX7_isFreeze 3 = .ok (.getfield 86, 3) := by decide +kernel
theorem dX7_isFreeze_6 : decode cX7_isFreeze 6 = .ok (.iconst 1, 1) := by decide +kernel
theorem dX7_isFreeze_7 : decode cX7_isFreeze 7 = .ok (.isub, 1) := by decide +kernel
theorem dX7_isFreeze_8 : decode cX7_isFreeze 8 = .ok (.invokestatic 72, 3) := by decide +kernel
theorem dX7_isFreeze_11 : decode cX7_isFreeze 11 = .ok (.ifCond .eq 16, 3) := by decide +kernel
theorem dX7_isFreeze_14 : decode cX7_isFreeze 14 = .ok (.aload_n 0, 1) := by decide +kernel
theorem dX7_isFreeze_15 : decode cX7_isFreeze 15 = .ok (.getfield 24, 3) := by decide +kernel
theorem dX7_isFreeze_18 : decode cX7_isFreeze 18 = .ok (.iload_n 1, 1) := by decide +kernel
theorem dX7_isFreeze_19 : decode cX7_isFreeze 19 = .ok (.baload, 1) := by decide +kernel
theorem dX7_isFreeze_20 : decode cX7_isFreeze 20 = .ok (.ifCond .ne 7, 3) := by decide +kernel
theorem dX7_isFreeze_23 : decode cX7_isFreeze 23 = .ok (.iconst 1, 1) := by decide +kernel
theorem dX7_isFreeze_24 : decode cX7_isFreeze 24 = .ok (.goto 4, 3) := by decide +kernel
theorem dX7_isFreeze_27 : decode cX7_isFreeze 27 = .ok (.iconst 0, 1) := by decide +kernel
theorem dX7_isFreeze_28 : decode cX7_isFreeze 28 = .ok (.ireturn, 1) := by decide +kernel
theorem dX7_lift_0 : decode cX7_lift 0 = .ok (.aload_n 0, 1) := by decide +kernel
theorem dX7_lift_1 : decode cX7_lift 1 = .ok (.aload_n 0, 1) := by decide +kernel
theorem dX7_lift_2 : decode cX7_lift 2 = .ok (.iload_n 1, 1) := by decide +kernel
theorem dX7_lift_3 : decode cX7_lift 3 = .ok (.invokevirtual 93, 3) := by decide +kernel
theorem dX7_lift_6 : decode cX7_lift 6 = .ok (.ifCond .eq 7, 3) := by decide +kernel
theorem dX7_lift_9 : decode cX7_lift 9 = .ok (.iconst 0, 1) := by decide +kernel
theorem dX7_lift_10 : decode cX7_lift 10 = .ok (.goto 4, 3) := by decide +kernel
theorem dX7_lift_13 : decode cX7_lift 13 = .ok (.iconst 1, 1) := by decide +kernel
theorem dX7_lift_14 : decode cX7_lift 14 = .ok (.putfield 69, 3) := by decide +kernel
theorem dX7_lift_17 : decode cX7_lift 17 = .ok (.aload_n 0, 1) := by decide +kernel
theorem dX7_lift_18 : decode cX7_lift 18 = .ok (.getfield 69, 3) := by decide +kernel
theorem dX7_lift_21 : decode cX7_lift 21 = .ok (.ifCond .le 5, 3) := by decide +kernel
theorem dX7_lift_24 : decode cX7_lift 24 = .ok (.iconst 0, 1) := by decide +kernel
theorem dX7_lift_25 : decode cX7_lift 25 = .ok (.ireturn, 1) := by decide +kernel
theorem dX7_lift_26 : decode cX7_lift 26 = .ok (.aload_n 0, 1) := by decide +kernel
theorem dX7_lift_27 : decode cX7_lift 27 = .ok (.getfield 24, 3) := by decide +kernel
theorem dX7_lift_30 : decode cX7_lift 30 = .ok (.iload_n 1, 1) := by decide +kernel
theorem dX7_lift_31 : decode cX7_lift 31 = .ok (.iconst 1, 1) := by decide +kernel
theorem dX7_lift_32 : decode cX7_lift 32 = .ok (.bastore, 1) := by decide +kernel
theorem dX7_lift_33 : decode cX7_lift 33 = .ok (.iconst 0, 1) := by decide +kernel
theorem dX7_lift_34 : decode cX7_lift 34 = .ok (.istore_n 2, 1) := by decide +kernel
theorem dX7_lift_35 : decode cX7_lift 35 = .ok (.iconst 0, 1) := by decide +kernel
theorem dX7_lift_36 : decode cX7_lift 36 = .ok (.istore_n 3, 1) := by decide +kernel
theorem dX7_lift_37 : decode cX7_lift 37 = .ok (.iload_n 3, 1) := by decide +kernel
theorem dX7_lift_38 : decode cX7_lift 38 = .ok (.aload_n 0, 1) := by decide +kernel
theorem dX7_lift_39 : decode cX7_lift 39 = .ok (.getfield 86, 3) := by decide +kernel
theorem dX7_lift_42 : decode cX7_lift 42 = .ok (.if_icmp .ge 26, 3) := by decide +kernel
theorem dX7_lift_45 : decode cX7_lift 45 = .ok (.iload_n 2, 1) := by decide +kernel
theorem dX7_lift_46 : decode cX7_lift 46 = .ok (.aload_n 0, 1) := by decide +kernel
theorem dX7_lift_47 : decode cX7_lift 47 = .ok (.getfield 24, 3) := by decide +kernel
theorem dX7_lift_50 : decode cX7_lift 50 = .ok (.iload_n 3, 1) := by decide +kernel
theorem dX7_lift_51 : decode cX7_lift 51 = .ok (.baload, 1) := by decide +kernel
theorem dX7_lift_52 : decode cX7_lift 52 = .ok (.ifCond .eq 7, 3) := by decide +kernel
theorem dX7_lift_55 : decode cX7_lift 55 = .ok (.iconst 0, 1) := by decide +kernel
theorem dX7_lift_56 : decode cX7_lift 56 = .ok (.goto 4, 3) := by decide +kernel
theorem dX7_lift_59 : decode cX7_lift 59 = .ok (.iconst 1, 1) := by decide +kernel
theorem dX7_lift_60 : decode cX7_lift 60 = .ok (.iadd, 1) := by decide +kernel
theorem dX7_lift_61 : decode cX7_lift 61 = .ok (.istore_n 2, 1) := by decide +kernel
theorem dX7_lift_62 : decode cX7_lift 62 = .ok (.iinc 3 1, 3) := by decide +kernel
theorem dX7_lift_65 : decode cX7_lift 65 = .ok (.goto (-28), 3) := by decide +kernel
theorem dX7_lift_68 : decode cX7_lift 68 = .ok (.iload_n 2, 1) := by decide +kernel
theorem dX7_lift_69 : decode cX7_lift 69 = .ok (.ireturn, 1) := by decide +kernel
theorem dX7_holds_0 : decode cX7_holds 0 = .ok (.aload_n 0, 1) := by decide +kernel
theorem dX7_holds_1 : decode cX7_holds 1 = .ok (.getfield 36, 3) := by decide +kernel
theorem dX7_holds_4 : decode cX7_holds 4 = .ok (.iload_n 1, 1) := by decide +kernel
theorem dX7_holds_5 : decode cX7_holds 5 = .ok (.iaload, 1) := by decide +kernel
theorem dX7_holds_6 : decode cX7_holds 6 = .ok (.istore_n 3, 1) := by decide +kernel
theorem dX7_holds_7 : decode cX7_holds 7 = .ok (.aload_n 0, 1) := by decide +kernel
theorem dX7_holds_8 : decode cX7_holds 8 = .ok (.getfield 39, 3) := by decide +kernel
theorem dX7_holds_11 : decode cX7_holds 11 = .ok (.iload_n 1, 1) := by decide +kernel
theorem dX7_holds_12 : decode cX7_holds 12 = .ok (.iaload, 1) := by decide +kernel
theorem dX7_holds_13 : decode cX7_holds 13 = .ok (.istore 4, 2) := by decide +kernel
theorem dX7_holds_15 : decode cX7_holds 15 = .ok (.aload_n 0, 1) := by decide +kernel
theorem dX7_holds_16 : decode cX7_holds 16 = .ok (.getfield 27, 3) := by decide +kernel
theorem dX7_holds_19 : decode cX7_holds 19 = .ok (.iload_n 1, 1) := by decide +kernel
theorem dX7_holds_20 : decode cX7_holds 20 = .ok (.iaload, 1) := by decide +kernel
theorem dX7_holds_21 : decode cX7_holds 21 = .ok (.ifCond .ne 20, 3) := by decide +kernel
theorem dX7_holds_24 : decode cX7_holds 24 = .ok (.iload_n 2, 1) := by decide +kernel
theorem dX7_holds_25 : decode cX7_holds 25 = .ok (.iload_n 3, 1) := by decide +kernel
theorem dX7_holds_26 : decode cX7_holds 26 = .ok (.if_icmp .lt 13, 3) := by decide +kernel
theorem dX7_holds_29 : decode cX7_holds 29 = .ok (.iload_n 2, 1) := by decide +kernel
theorem dX7_holds_30 : decode cX7_holds 30 = .ok (.iload 4, 2) := by decide +kernel
theorem dX7_holds_32 : decode cX7_holds 32 = .ok (.if_icmp .ge 7, 3) := by decide +kernel
theorem dX7_holds_35 : decode cX7_holds 35 = .ok (.iconst 1, 1) := by decide +kernel
theorem dX7_holds_36 : decode cX7_holds 36 = .ok (.goto 4, 3) := by decide +kernel
theorem dX7_holds_39 : decode cX7_holds 39 = .ok (.iconst 0, 1) := by decide +kernel
theorem dX7_holds_40 : decode cX7_holds 40 = .ok (.ireturn, 1) := by decide +kernel
theorem dX7_holds_41 : decode cX7_holds 41 = .ok (.iload_n 2, 1) := by decide +kernel
theorem dX7_holds_42 : decode cX7_holds 42 = .ok (.aload_n 0, 1) := by decide +kernel
theorem dX7_holds_43 : decode cX7_holds 43 = .ok (.getfield 17, 3) := by decide +kernel
theorem dX7_holds_46 : decode cX7_holds 46 = .ok (.aload_n 0, 1) := by decide +kernel
theorem dX7_holds_47 : decode cX7_holds 47 = .ok (.getfield 33, 3) := by decide +kernel
theorem dX7_holds_50 : decode cX7_holds 50 = .ok (.iload_n 1, 1) := by decide +kernel
theorem dX7_holds_51 : decode cX7_holds 51 = .ok (.iaload, 1) := by decide +kernel
theorem dX7_holds_52 : decode cX7_holds 52 = .ok (.iaload, 1) := by decide +kernel
theorem dX7_holds_53 : decode cX7_holds 53 = .ok (.iadd, 1) := by decide +kernel
theorem dX7_holds_54 : decode cX7_holds 54 = .ok (.bipush 24, 2) := by decide +kernel
theorem dX7_holds_56 : decode cX7_holds 56 = .ok (.iadd, 1) := by decide +kernel
theorem dX7_holds_57 : decode cX7_holds 57 = .ok (.istore 5, 2) := by decide +kernel
theorem dX7_holds_59 : decode cX7_holds 59 = .ok (.aload_n 0, 1) := by decide +kernel
theorem dX7_holds_60 : decode cX7_holds 60 = .ok (.getfield 27, 3) := by decide +kernel
theorem dX7_holds_63 : decode cX7_holds 63 = .ok (.iload_n 1, 1) := by decide +kernel
theorem dX7_holds_64 : decode cX7_holds 64 = .ok (.iaload, 1) := by decide +kernel
theorem dX7_holds_65 : decode cX7_holds 65 = .ok (.iconst 1, 1) := by decide +kernel
theorem dX7_holds_66 : decode cX7_holds 66 = .ok (.if_icmp .eq 24, 3) := by decide +kernel
theorem dX7_holds_69 : decode cX7_holds 69 = .ok (.aload_n 0, 1) := by decide +kernel
theorem dX7_holds_70 : decode cX7_holds 70 = .ok (.getfield 20, 3) := by decide +kernel
theorem dX7_holds_73 : decode cX7_holds 73 = .ok (.bipush 30, 2) := by decide +kernel
theorem dX7_holds_75 : decode cX7_holds 75 = .ok (.aload_n 0, 1) := by decide +kernel
theorem dX7_holds_76 : decode cX7_holds 76 = .ok (.getfield 33, 3) := by decide +kernel
theorem dX7_holds_79 : decode cX7_holds 79 = .ok (.iload_n 1, 1) := by decide +kernel
theorem dX7_holds_80 : decode cX7_holds 80 = .ok (.iaload, 1) := by decide +kernel
theorem dX7_holds_81 : decode cX7_holds 81 = .ok (.imul, 1) := by decide +kernel
theorem dX7_holds_82 : decode cX7_holds 82 = .ok (.iload 5, 2) := by decide +kernel
theorem dX7_holds_84 : decode cX7_holds 84 = .ok (.bipush 24, 2) := by decide +kernel
theorem dX7_holds_86 : decode cX7_holds 86 = .ok (.idiv, 1) := by decide +kernel
theorem dX7_holds_87 : decode cX7_holds 87 = .ok (.iadd, 1) := by decide +kernel
theorem dX7_holds_88 : decode cX7_holds 88 = .ok (.baload, 1) := by decide +kernel
theorem dX7_holds_89 : decode cX7_holds 89 = .ok (.ireturn, 1) := by decide +kernel
theorem dX7_holds_90 : decode cX7_holds 90 = .ok (.iload 5, 2) := by decide +kernel
theorem dX7_holds_92 : decode cX7_holds 92 = .ok (.bipush 24, 2) := by decide +kernel
theorem dX7_holds_94 : decode cX7_holds 94 = .ok (.irem, 1) := by decide +kernel
theorem dX7_holds_95 : decode cX7_holds 95 = .ok (.istore 6, 2) := by decide +kernel
theorem dX7_holds_97 : decode cX7_holds 97 = .ok (.iload_n 3, 1) := by decide +kernel
theorem dX7_holds_98 : decode cX7_holds 98 = .ok (.iload 4, 2) := by decide +kernel
theorem dX7_holds_100 : decode cX7_holds 100 = .ok (.if_icmp .eq 38, 3) := by decide +kernel
theorem dX7_holds_103 : decode cX7_holds 103 = .ok (.iload_n 3, 1) := by decide +kernel
theorem dX7_holds_104 : decode cX7_holds 104 = .ok (.iload 4, 2) := by decide +kernel
theorem dX7_holds_106 : decode cX7_holds 106 = .ok (.if_icmp .ge 19, 3) := by decide +kernel
theorem dX7_holds_109 : decode cX7_holds 109 = .ok (.iload 6, 2) := by decide +kernel
theorem dX7_holds_111 : decode cX7_holds 111 = .ok (.iload_n 3, 1) := by decide +kernel
theorem dX7_holds_112 : decode cX7_holds 112 = .ok (.if_icmp .lt 30, 3) := by decide +kernel
theorem dX7_holds_115 : decode cX7_holds 115 = .ok (.iload 6, 2) := by decide +kernel
theorem dX7_holds_117 : decode cX7_holds 117 = .ok (.iload 4, 2) := by decide +kernel
theorem dX7_holds_119 : decode cX7_holds 119 = .ok (.if_icmp .ge 23, 3) := by decide +kernel
theorem dX7_holds_122 : decode cX7_holds 122 = .ok (.goto 16, 3) := by decide +kernel
theorem dX7_holds_125 : decode cX7_holds 125 = .ok (.iload 6, 2) := by decide +kernel
theorem dX7_holds_127 : decode cX7_holds 127 = .ok (.iload_n 3, 1) := by decide +kernel
theorem dX7_holds_128 : decode cX7_holds 128 = .ok (.if_icmp .ge 10, 3) := by decide +kernel
theorem dX7_holds_131 : decode cX7_holds 131 = .ok (.iload 6, 2) := by decide +kernel
theorem dX7_holds_133 : decode cX7_holds 133 = .ok (.iload 4, 2) := by decide +kernel
theorem dX7_holds_135 : decode cX7_holds 135 = .ok (.if_icmp .ge 7, 3) := by decide +kernel
theorem dX7_holds_138 : decode cX7_holds 138 = .ok (.iconst 1, 1) := by decide +kernel
theorem dX7_holds_139 : decode cX7_holds 139 = .ok (.goto 4, 3) := by decide +kernel
theorem dX7_holds_142 : decode cX7_holds 142 = .ok (.iconst 0, 1) := by decide +kernel
theorem dX7_holds_143 : decode cX7_holds 143 = .ok (.ireturn, 1) := by decide +kernel
theorem dX7_isBelow_0 : decode cX7_isBelow 0 = .ok (.iload_n 1, 1) := by decide +kernel
theorem dX7_isBelow_1 : decode cX7_isBelow 1 = .ok (.istore_n 3, 1) := by decide +kernel
theorem dX7_isBelow_2 : decode cX7_isBelow 2 = .ok (.iload_n 3, 1) := by decide +kernel
theorem dX7_isBelow_3 : decode cX7_isBelow 3 = .ok (.iconst (-1), 1) := by decide +kernel
theorem dX7_isBelow_4 : decode cX7_isBelow 4 = .ok (.if_icmp .eq 18, 3) := by decide +kernel
theorem dX7_isBelow_7 : decode cX7_isBelow 7 = .ok (.iload_n 3, 1) := by decide +kernel
theorem dX7_isBelow_8 : decode cX7_isBelow 8 = .ok (.iload_n 2, 1) := by decide +kernel
theorem dX7_isBelow_9 : decode cX7_isBelow 9 = .ok (.if_icmp .eq 13, 3) := by decide +kernel
theorem dX7_isBelow_12 : decode cX7_isBelow 12 = .ok (.aload_n 0, 1) := by decide +kernel
theorem dX7_isBelow_13 : decode cX7_isBelow 13 = .ok (.getfield 13, 3) := by decide +kernel
theorem dX7_isBelow_16 : decode cX7_isBelow 16 = .ok (.iload_n 3, 1) := by decide +kernel
theorem dX7_isBelow_17 : decode cX7_isBelow 17 = .ok (.iaload, 1) := by decide +kernel
theorem dX7_isBelow_18 : decode cX7_isBelow 18 = .ok (.istore_n 3, 1) := by decide +kernel
theorem dX7_isBelow_19 : decode cX7_isBelow 19 = .ok (.goto (-17), 3) := by decide +kernel
theorem dX7_isBelow_22 : decode cX7_isBelow 22 = .ok (.iload_n 3, 1) := by decide +kernel
theorem dX7_isBelow_23 : decode cX7_isBelow 23 = .ok (.iload_n 2, 1) := by decide +kernel
theorem dX7_isBelow_24 : decode cX7_isBelow 24 = .ok (.if_icmp .ne 7, 3) := by decide +kernel
theorem dX7_isBelow_27 : decode cX7_isBelow 27 = .ok (.iconst 1, 1) := by decide +kernel
theorem dX7_isBelow_28 : decode cX7_isBelow 28 = .ok (.goto 4, 3) := by decide +kernel
theorem dX7_isBelow_31 : decode cX7_isBelow 31 = .ok (.iconst 0, 1) := by decide +kernel
theorem dX7_isBelow_32 : decode cX7_isBelow 32 = .ok (.ireturn, 1) := by decide +kernel
theorem dX7_touchesScope_0 : decode cX7_touchesScope 0 = .ok (.aload_n 0, 1) := by decide +kernel
theorem dX7_touchesScope_1 : decode cX7_touchesScope 1 = .ok (.iload_n 2, 1) := by decide +kernel
theorem dX7_touchesScope_2 : decode cX7_touchesScope 2 = .ok (.aload_n 0, 1) := by decide +kernel
theorem dX7_touchesScope_3 : decode cX7_touchesScope 3 = .ok (.getfield 30, 3) := by decide +kernel
theorem dX7_touchesScope_6 : decode cX7_touchesScope 6 = .ok (.iload_n 1, 1) := by decide +kernel
theorem dX7_touchesScope_7 : decode cX7_touchesScope 7 = .ok (.iaload, 1) := by decide +kernel
theorem dX7_touchesScope_8 : decode cX7_touchesScope 8 = .ok (.invokevirtual 96, 3) := by decide +kernel
theorem dX7_touchesScope_11 : decode cX7_touchesScope 11 = .ok (.ifCond .ne 17, 3) := by decide +kernel
theorem dX7_touchesScope_14 : decode cX7_touchesScope 14 = .ok (.aload_n 0, 1) := by decide +kernel
theorem dX7_touchesScope_15 : decode cX7_touchesScope 15 = .ok (.aload_n 0, 1) := by decide +kernel
theorem dX7_touchesScope_16 : decode cX7_touchesScope 16 = .ok (.getfield 30, 3) := by decide +kernel
theorem dX7_touchesScope_19 : decode cX7_touchesScope 19 = .ok (.iload_n 1, 1) := by decide +kernel
theorem dX7_touchesScope_20 : decode cX7_touchesScope 20 = .ok (.iaload, 1) := by decide +kernel
theorem dX7_touchesScope_21 : decode cX7_touchesScope 21 = .ok (.iload_n 2, 1) := by decide +kernel
theorem dX7_touchesScope_22 : decode cX7_touchesScope 22 = .ok (.invokevirtual 96, 3) := by decide +kernel
theorem dX7_touchesScope_25 : decode cX7_touchesScope 25 = .ok (.ifCond .eq 7, 3) := by decide +kernel
theorem dX7_touchesScope_28 : decode cX7_touchesScope 28 = .ok (.iconst 1, 1) := by decide +kernel
theorem dX7_touchesScope_29 : decode cX7_touchesScope 29 = .ok (.goto 4, 3) := by decide +kernel
theorem dX7_touchesScope_32 : decode cX7_touchesScope 32 = .ok (.iconst 0, 1) := by decide +kernel
theorem dX7_touchesScope_33 : decode cX7_touchesScope 33 = .ok (.ireturn, 1) := by decide +kernel
theorem dX7_holdingIn_0 : decode cX7_holdingIn 0 = .ok (.iconst 0, 1) := by decide +kernel
theorem dX7_holdingIn_1 : decode cX7_holdingIn 1 = .ok (.istore_n 3, 1) := by decide +kernel
theorem dX7_holdingIn_2 : decode cX7_holdingIn 2 = .ok (.iconst 0, 1) := by decide +kernel
theorem dX7_holdingIn_3 : decode cX7_holdingIn 3 = .ok (.istore 4, 2) := by decide +kernel
theorem dX7_holdingIn_5 : decode cX7_holdingIn 5 = .ok (.iload 4, 2) := by decide +kernel
theorem dX7_holdingIn_7 : decode cX7_holdingIn 7 = .ok (.aload_n 0, 1) := by decide +kernel
theorem dX7_holdingIn_8 : decode cX7_holdingIn 8 = .ok (.getfield 86, 3) := by decide +kernel
theorem dX7_holdingIn_11 : decode cX7_holdingIn 11 = .ok (.if_icmp .ge 50, 3) := by decide +kernel
theorem dX7_holdingIn_14 : decode cX7_holdingIn 14 = .ok (.iload_n 3, 1) := by decide +kernel
theorem dX7_holdingIn_15 : decode cX7_holdingIn 15 = .ok (.aload_n 0, 1) := by decide +kernel
theorem dX7_holdingIn_16 : decode cX7_holdingIn 16 = .ok (.getfield 24, 3) := by decide +kernel
theorem dX7_holdingIn_19 : decode cX7_holdingIn 19 = .ok (.iload 4, 2) := by decide +kernel
theorem dX7_holdingIn_21 : decode cX7_holdingIn 21 = .ok (.baload, 1) := by decide +kernel
theorem dX7_holdingIn_22 : decode cX7_holdingIn 22 = .ok (.ifCond .ne 30, 3) := by decide +kernel
theorem dX7_holdingIn_25 : decode cX7_holdingIn 25 = .ok (.aload_n 0, 1) := by decide +kernel
theorem dX7_holdingIn_26 : decode cX7_holdingIn 26 = .ok (.iload 4, 2) := by decide +kernel
theorem dX7_holdingIn_28 : decode cX7_holdingIn 28 = .ok (.iload_n 1, 1) := by decide +kernel
theorem dX7_holdingIn_29 : decode cX7_holdingIn 29 = .ok (.invokevirtual 100, 3) := by decide +kernel
theorem dX7_holdingIn_32 : decode cX7_holdingIn 32 = .ok (.ifCond .eq 20, 3) := by decide +kernel
theorem dX7_holdingIn_35 : decode cX7_holdingIn 35 = .ok (.aload_n 0, 1) := by decide +kernel
theorem dX7_holdingIn_36 : decode cX7_holdingIn 36 = .ok (.iload 4, 2) := by decide +kernel
theorem dX7_holdingIn_38 : decode cX7_holdingIn 38 = .ok (.iload_n 2, 1) := by decide +kernel
theorem dX7_holdingIn_39 : decode cX7_holdingIn 39 = .ok (.invokevirtual 103, 3) := by decide +kernel
theorem dX7_holdingIn_42 : decode cX7_holdingIn 42 = .ok (.ifCond .eq 10, 3) := by decide +kernel
theorem dX7_holdingIn_45 : decode cX7_holdingIn 45 = .ok (.iconst 1, 1) := by decide +kernel
theorem dX7_holdingIn_46 : decode cX7_holdingIn 46 = .ok (.iload 4, 2) := by decide +kernel
theorem dX7_holdingIn_48 : decode cX7_holdingIn 48 = .ok (.ishl, 1) := by decide +kernel
theorem dX7_holdingIn_49 : decode cX7_holdingIn 49 = .ok (.goto 4, 3) := by decide +kernel
theorem dX7_holdingIn_52 : decode cX7_holdingIn 52 = .ok (.iconst 0, 1) := by decide +kernel
theorem dX7_holdingIn_53 : decode cX7_holdingIn 53 = .ok (.ior, 1) := by decide +kernel
theorem dX7_holdingIn_54 : decode cX7_holdingIn 54 = .ok (.istore_n 3, 1) := by decide +kernel
theorem dX7_holdingIn_55 : decode cX7_holdingIn 55 = .ok (.iinc 4 1, 3) := by decide +kernel
theorem dX7_holdingIn_58 : decode cX7_holdingIn 58 = .ok (.goto (-53), 3) := by decide +kernel
theorem dX7_holdingIn_61 : decode cX7_holdingIn 61 = .ok (.iload_n 3, 1) := by decide +kernel
theorem dX7_holdingIn_62 : decode cX7_holdingIn 62 = .ok (.ireturn, 1) := by decide +kernel
theorem dX7_holding_0 : decode cX7_holding 0 = .ok (.aload_n 0, 1) := by decide +kernel
theorem dX7_holding_1 : decode cX7_holding 1 = .ok (.aload_n 0, 1) := by decide +kernel
theorem dX7_holding_2 : decode cX7_holding 2 = .ok (.iload_n 1, 1) := by decide +kernel
theorem dX7_holding_3 : decode cX7_holding 3 = .ok (.invokevirtual 76, 3) := by decide +kernel
theorem dX7_holding_6 : decode cX7_holding 6 = .ok (.ifCond .ne 7, 3) := by decide +kernel
theorem dX7_holding_9 : decode cX7_holding 9 = .ok (.iconst 1, 1) := by decide +kernel
theorem dX7_holding_10 : decode cX7_holding 10 = .ok (.goto 19, 3) := by decide +kernel
theorem dX7_holding_13 : decode cX7_holding 13 = .ok (.iload_n 2, 1) := by decide +kernel
theorem dX7_holding_14 : decode cX7_holding 14 = .ok (.iconst 0, 1) := by decide +kernel
theorem dX7_holding_15 : decode cX7_holding 15 = .ok (.sipush 671, 3) := by decide +kernel
theorem dX7_holding_18 : decode cX7_holding 18 = .ok (.invokestatic 72, 3) := by decide +kernel
theorem dX7_holding_21 : decode cX7_holding 21 = .ok (.ifCond .eq 7, 3) := by decide +kernel
theorem dX7_holding_24 : decode cX7_holding 24 = .ok (.iconst 0, 1) := by decide +kernel
theorem dX7_holding_25 : decode cX7_holding 25 = .ok (.goto 4, 3) := by decide +kernel
theorem dX7_holding_28 : decode cX7_holding 28 = .ok (.iconst 2, 1) := by decide +kernel
theorem dX7_holding_29 : decode cX7_holding 29 = .ok (.putfield 69, 3) := by decide +kernel
theorem dX7_holding_32 : decode cX7_holding 32 = .ok (.aload_n 0, 1) := by decide +kernel
theorem dX7_holding_33 : decode cX7_holding 33 = .ok (.getfield 69, 3) := by decide +kernel
theorem dX7_holding_36 : decode cX7_holding 36 = .ok (.ifCond .le 7, 3) := by decide +kernel
theorem dX7_holding_39 : decode cX7_holding 39 = .ok (.iconst 0, 1) := by decide +kernel
theorem dX7_holding_40 : decode cX7_holding 40 = .ok (.goto 9, 3) := by decide +kernel
theorem dX7_holding_43 : decode cX7_holding 43 = .ok (.aload_n 0, 1) := by decide +kernel
theorem dX7_holding_44 : decode cX7_holding 44 = .ok (.iload_n 1, 1) := by decide +kernel
theorem dX7_holding_45 : decode cX7_holding 45 = .ok (.iload_n 2, 1) := by decide +kernel
theorem dX7_holding_46 : decode cX7_holding 46 = .ok (.invokevirtual 106, 3) := by decide +kernel
theorem dX7_holding_49 : decode cX7_holding 49 = .ok (.ireturn, 1) := by decide +kernel
theorem dX7_hours_0 : decode cX7_hours 0 = .ok (.aload_n 0, 1) := by decide +kernel
theorem dX7_hours_1 : decode cX7_hours 1 = .ok (.aload_n 0, 1) := by decide +kernel
theorem dX7_hours_2 : decode cX7_hours 2 = .ok (.iload_n 1, 1) := by decide +kernel
theorem dX7_hours_3 : decode cX7_hours 3 = .ok (.invokevirtual 93, 3) := by decide +kernel
theorem dX7_hours_6 : decode cX7_hours 6 = .ok (.ifCond .eq 7, 3) := by decide +kernel
theorem dX7_hours_9 : decode cX7_hours 9 = .ok (.iconst 0, 1) := by decide +kernel
theorem dX7_hours_10 : decode cX7_hours 10 = .ok (.goto 4, 3) := by decide +kernel
theorem dX7_hours_13 : decode cX7_hours 13 = .ok (.iconst 1, 1) := by decide +kernel
theorem dX7_hours_14 : decode cX7_hours 14 = .ok (.putfield 69, 3) := by decide +kernel
theorem dX7_hours_17 : decode cX7_hours 17 = .ok (.iconst 0, 1) := by decide +kernel
theorem dX7_hours_18 : decode cX7_hours 18 = .ok (.istore_n 2, 1) := by decide +kernel
theorem dX7_hours_19 : decode cX7_hours 19 = .ok (.iconst 0, 1) := by decide +kernel
theorem dX7_hours_20 : decode cX7_hours 20 = .ok (.istore_n 3, 1) := by decide +kernel
theorem dX7_hours_21 : decode cX7_hours 21 = .ok (.iload_n 3, 1) := by decide +kernel
theorem dX7_hours_22 : decode cX7_hours 22 = .ok (.sipush 672, 3) := by decide +kernel
theorem dX7_hours_25 : decode cX7_hours 25 = .ok (.if_icmp .ge 33, 3) := by decide +kernel
theorem dX7_hours_28 : decode cX7_hours 28 = .ok (.aload_n 0, 1) := by decide +kernel
theorem dX7_hours_29 : decode cX7_hours 29 = .ok (.getfield 69, 3) := by decide +kernel
theorem dX7_hours_32 : decode cX7_hours 32 = .ok (.ifCond .ne 26, 3) := by decide +kernel
theorem dX7_hours_35 : decode cX7_hours 35 = .ok (.iload_n 2, 1) := by decide +kernel
theorem dX7_hours_36 : decode cX7_hours 36 = .ok (.aload_n 0, 1) := by decide +kernel
theorem dX7_hours_37 : decode cX7_hours 37 = .ok (.iload_n 1, 1) := by decide +kernel
theorem dX7_hours_38 : decode cX7_hours 38 = .ok (.iload_n 3, 1) := by decide +kernel
theorem dX7_hours_39 : decode cX7_hours 39 = .ok (.invokevirtual 103, 3) := by decide +kernel
theorem dX7_hours_42 : decode cX7_hours 42 = .ok (.ifCond .eq 7, 3) := by decide +kernel
theorem dX7_hours_45 : decode cX7_hours 45 = .ok (.iconst 1, 1) := by decide +kernel
theorem dX7_hours_46 : decode cX7_hours 46 = .ok (.goto 4, 3) := by decide +kernel
theorem dX7_hours_49 : decode cX7_hours 49 = .ok (.iconst 0, 1) := by decide +kernel
theorem dX7_hours_50 : decode cX7_hours 50 = .ok (.iadd, 1) := by decide +kernel
theorem dX7_hours_51 : decode cX7_hours 51 = .ok (.istore_n 2, 1) := by decide +kernel
theorem dX7_hours_52 : decode cX7_hours 52 = .ok (.iinc 3 1, 3) := by decide +kernel
theorem dX7_hours_55 : decode cX7_hours 55 = .ok (.goto (-34), 3) := by decide +kernel
theorem dX7_hours_58 : decode cX7_hours 58 = .ok (.iload_n 2, 1) := by decide +kernel
theorem dX7_hours_59 : decode cX7_hours 59 = .ok (.ireturn, 1) := by decide +kernel
theorem dX7_nextSpan_0 : decode cX7_nextSpan 0 = .ok (.aload_n 0, 1) := by decide +kernel
theorem dX7_nextSpan_1 : decode cX7_nextSpan 1 = .ok (.aload_n 0, 1) := by decide +kernel
theorem dX7_nextSpan_2 : decode cX7_nextSpan 2 = .ok (.iload_n 1, 1) := by decide +kernel
theorem dX7_nextSpan_3 : decode cX7_nextSpan 3 = .ok (.invokevirtual 76, 3) := by decide +kernel
theorem dX7_nextSpan_6 : decode cX7_nextSpan 6 = .ok (.ifCond .ne 7, 3) := by decide +kernel
theorem dX7_nextSpan_9 : decode cX7_nextSpan 9 = .ok (.iconst 1, 1) := by decide +kernel
theorem dX7_nextSpan_10 : decode cX7_nextSpan 10 = .ok (.goto 29, 3) := by decide +kernel
theorem dX7_nextSpan_13 : decode cX7_nextSpan 13 = .ok (.iload_n 2, 1) := by decide +kernel
theorem dX7_nextSpan_14 : decode cX7_nextSpan 14 = .ok (.iconst 0, 1) := by decide +kernel
theorem dX7_nextSpan_15 : decode cX7_nextSpan 15 = .ok (.sipush 671, 3) := by decide +kernel
theorem dX7_nextSpan_18 : decode cX7_nextSpan 18 = .ok (.invokestatic 72, 3) := by decide +kernel
theorem dX7_nextSpan_21 : decode cX7_nextSpan 21 = .ok (.ifCond .eq 17, 3) := by decide +kernel
theorem dX7_nextSpan_24 : decode cX7_nextSpan 24 = .ok (.iload_n 3, 1) := by decide +kernel
theorem dX7_nextSpan_25 : decode cX7_nextSpan 25 = .ok (.iconst 1, 1) := by decide +kernel
theorem dX7_nextSpan_26 : decode cX7_nextSpan 26 = .ok (.bipush 100, 2) := by decide +kernel
theorem dX7_nextSpan_28 : decode cX7_nextSpan 28 = .ok (.invokestatic 72, 3) := by decide +kernel
theorem dX7_nextSpan_31 : decode cX7_nextSpan 31 = .ok (.ifCond .eq 7, 3) := by decide +kernel
theorem dX7_nextSpan_34 : decode cX7_nextSpan 34 = .ok (.iconst 0, 1) := by decide +kernel
theorem dX7_nextSpan_35 : decode cX7_nextSpan 35 = .ok (.goto 4, 3) := by decide +kernel
theorem dX7_nextSpan_38 : decode cX7_nextSpan 38 = .ok (.iconst 2, 1) := by decide +kernel
theorem dX7_nextSpan_39 : decode cX7_nextSpan 39 = .ok (.putfield 69, 3) := by decide +kernel
theorem dX7_nextSpan_42 : decode cX7_nextSpan 42 = .ok (.iconst 0, 1) := by decide +kernel
theorem dX7_nextSpan_43 : decode cX7_nextSpan 43 = .ok (.istore 4, 2) := by decide +kernel
theorem dX7_nextSpan_45 : decode cX7_nextSpan 45 = .ok (.iconst (-1), 1) := by decide +kernel
theorem dX7_nextSpan_46 : decode cX7_nextSpan 46 = .ok (.istore 5, 2) := by decide +kernel
theorem dX7_nextSpan_48 : decode cX7_nextSpan 48 = .ok (.iload_n 2, 1) := by decide +kernel
theorem dX7_nextSpan_49 : decode cX7_nextSpan 49 = .ok (.istore 6, 2) := by decide +kernel
theorem dX7_nextSpan_51 : decode cX7_nextSpan 51 = .ok (.iload 6, 2) := by decide +kernel
theorem dX7_nextSpan_53 : decode cX7_nextSpan 53 = .ok (.sipush 672, 3) := by decide +kernel
theorem dX7_nextSpan_56 : decode cX7_nextSpan 56 = .ok (.if_icmp .ge 60, 3) := by decide +kernel
theorem dX7_nextSpan_59 : decode cX7_nextSpan 59 = .ok (.aload_n 0, 1) := by decide +kernel
theorem dX7_nextSpan_60 : decode cX7_nextSpan 60 = .ok (.getfield 69, 3) := by decide +kernel
theorem dX7_nextSpan_63 : decode cX7_nextSpan 63 = .ok (.ifCond .ne 53, 3) := by decide +kernel
theorem dX7_nextSpan_66 : decode cX7_nextSpan 66 = .ok (.iload 5, 2) := by decide +kernel
theorem dX7_nextSpan_68 : decode cX7_nextSpan 68 = .ok (.iconst (-1), 1) := by decide +kernel
theorem dX7_nextSpan_69 : decode cX7_nextSpan 69 = .ok (.if_icmp .ne 47, 3) := by decide +kernel
theorem dX7_nextSpan_72 : decode cX7_nextSpan 72 = .ok (.aload_n 0, 1) := by decide +kernel
theorem dX7_nextSpan_73 : decode cX7_nextSpan 73 = .ok (.iload_n 1, 1) := by decide +kernel
theorem dX7_nextSpan_74 : decode cX7_nextSpan 74 = .ok (.iload 6, 2) := by decide +kernel
theorem dX7_nextSpan_76 : decode cX7_nextSpan 76 = .ok (.invokevirtual 106, 3) := by decide +kernel
theorem dX7_nextSpan_79 : decode cX7_nextSpan 79 = .ok (.ifCond .ne 10, 3) := by decide +kernel
theorem dX7_nextSpan_82 : decode cX7_nextSpan 82 = .ok (.iload 4, 2) := by decide +kernel
theorem dX7_nextSpan_84 : decode cX7_nextSpan 84 = .ok (.iconst 1, 1) := by decide +kernel
theorem dX7_nextSpan_85 : decode cX7_nextSpan 85 = .ok (.iadd, 1) := by decide +kernel
theorem dX7_nextSpan_86 : decode cX7_nextSpan 86 = .ok (.goto 4, 3) := by decide +kernel
theorem dX7_nextSpan_89 : decode cX7_nextSpan 89 = .ok (.iconst 0, 1) := by decide +kernel
theorem dX7_nextSpan_90 : decode cX7_nextSpan 90 = .ok (.istore 4, 2) := by decide +kernel
theorem dX7_nextSpan_92 : decode cX7_nextSpan 92 = .ok (.iload 4, 2) := by decide +kernel
theorem dX7_nextSpan_94 : decode cX7_nextSpan 94 = .ok (.iload_n 3, 1) := by decide +kernel
theorem dX7_nextSpan_95 : decode cX7_nextSpan 95 = .ok (.if_icmp .ne 12, 3) := by decide +kernel
theorem dX7_nextSpan_98 : decode cX7_nextSpan 98 = .ok (.iload 6, 2) := by decide +kernel
theorem dX7_nextSpan_100 : decode cX7_nextSpan 100 = .ok (.iload_n 3, 1) := by decide +kernel
theorem dX7_nextSpan_101 : decode cX7_nextSpan 101 = .ok (.isub, 1) := by decide +kernel
theorem dX7_nextSpan_102 : decode cX7_nextSpan 102 = .ok (.iconst 1, 1) := by decide +kernel
theorem dX7_nextSpan_103 : decode cX7_nextSpan 103 = .ok (.iadd, 1) := by decide +kernel
theorem dX7_nextSpan_104 : decode cX7_nextSpan 104 = .ok (.goto 4, 3) := by decide +kernel
theorem dX7_nextSpan_107 : decode cX7_nextSpan 107 = .ok (.iconst (-1), 1) := by decide +kernel
theorem dX7_nextSpan_108 : decode cX7_nextSpan 108 = .ok (.istore 5, 2) := by decide +kernel
theorem dX7_nextSpan_110 : decode cX7_nextSpan 110 = .ok (.iinc 6 1, 3) := by decide +kernel
theorem dX7_nextSpan_113 : decode cX7_nextSpan 113 = .ok (.goto (-62), 3) := by decide +kernel
theorem dX7_nextSpan_116 : decode cX7_nextSpan 116 = .ok (.aload_n 0, 1) := by decide +kernel
theorem dX7_nextSpan_117 : decode cX7_nextSpan 117 = .ok (.getfield 69, 3) := by decide +kernel
theorem dX7_nextSpan_120 : decode cX7_nextSpan 120 = .ok (.ifCond .le 7, 3) := by decide +kernel
theorem dX7_nextSpan_123 : decode cX7_nextSpan 123 = .ok (.iconst 0, 1) := by decide +kernel
theorem dX7_nextSpan_124 : decode cX7_nextSpan 124 = .ok (.goto 5, 3) := by decide +kernel
theorem dX7_nextSpan_127 : decode cX7_nextSpan 127 = .ok (.iload 5, 2) := by decide +kernel
theorem dX7_nextSpan_129 : decode cX7_nextSpan 129 = .ok (.ireturn, 1) := by decide +kernel
theorem dX7_isSpan_0 : decode cX7_isSpan 0 = .ok (.iload_n 1, 1) := by decide +kernel
theorem dX7_isSpan_1 : decode cX7_isSpan 1 = .ok (.aload_n 0, 1) := by decide +kernel
theorem dX7_isSpan_2 : decode cX7_isSpan 2 = .ok (.getfield 83, 3) := by decide +kernel
theorem dX7_isSpan_5 : decode cX7_isSpan 5 = .ok (.if_icmp .lt 23, 3) := by decide +kernel
theorem dX7_isSpan_8 : decode cX7_isSpan 8 = .ok (.iload_n 1, 1) := by decide +kernel
theorem dX7_isSpan_9 : decode cX7_isSpan 9 = .ok (.sipush 672, 3) := by decide +kernel
theorem dX7_isSpan_12 : decode cX7_isSpan 12 = .ok (.if_icmp .ge 16, 3) := by decide +kernel
theorem dX7_isSpan_15 : decode cX7_isSpan 15 = .ok (.iload_n 1, 1) := by decide +kernel
theorem dX7_isSpan_16 : decode cX7_isSpan 16 = .ok (.iload_n 2, 1) := by decide +kernel
theorem dX7_isSpan_17 : decode cX7_isSpan 17 = .ok (.iadd, 1) := by decide +kernel
theorem dX7_isSpan_18 : decode cX7_isSpan 18 = .ok (.sipush 672, 3) := by decide +kernel
theorem dX7_isSpan_21 : decode cX7_isSpan 21 = .ok (.if_icmp .gt 7, 3) := by decide +kernel
theorem dX7_isSpan_24 : decode cX7_isSpan 24 = .ok (.iconst 1, 1) := by decide +kernel
theorem dX7_isSpan_25 : decode cX7_isSpan 25 = .ok (.goto 4, 3) := by decide +kernel
theorem dX7_isSpan_28 : decode cX7_isSpan 28 = .ok (.iconst 0, 1) := by decide +kernel
theorem dX7_isSpan_29 : decode cX7_isSpan 29 = .ok (.ireturn, 1) := by decide +kernel
theorem dX7_plan_0 : decode cX7_plan 0 = .ok (.iload_n 3, 1) := by decide +kernel
theorem dX7_plan_1 : decode cX7_plan 1 = .ok (.iconst 1, 1) := by decide +kernel
theorem dX7_plan_2 : decode cX7_plan 2 = .ok (.bipush 100, 2) := by decide +kernel
theorem dX7_plan_4 : decode cX7_plan 4 = .ok (.invokestatic 72, 3) := by decide +kernel
theorem dX7_plan_7 : decode cX7_plan 7 = .ok (.ifCond .eq 26, 3) := by decide +kernel
theorem dX7_plan_10 : decode cX7_plan 10 = .ok (.iload 4, 2) := by decide +kernel
theorem dX7_plan_12 : decode cX7_plan 12 = .ok (.iconst 1, 1) := by decide +kernel
theorem dX7_plan_13 : decode cX7_plan 13 = .ok (.iconst 3, 1) := by decide +kernel
theorem dX7_plan_14 : decode cX7_plan 14 = .ok (.invokestatic 72, 3) := by decide +kernel
theorem dX7_plan_17 : decode cX7_plan 17 = .ok (.ifCond .eq 16, 3) := by decide +kernel
theorem dX7_plan_20 : decode cX7_plan 20 = .ok (.aload_n 0, 1) := by decide +kernel
theorem dX7_plan_21 : decode cX7_plan 21 = .ok (.iload_n 2, 1) := by decide +kernel
theorem dX7_plan_22 : decode cX7_plan 22 = .ok (.iload_n 3, 1) := by decide +kernel
theorem dX7_plan_23 : decode cX7_plan 23 = .ok (.invokevirtual 110, 3) := by decide +kernel
theorem dX7_plan_26 : decode cX7_plan 26 = .ok (.ifCond .eq 7, 3) := by decide +kernel
theorem dX7_plan_29 : decode cX7_plan 29 = .ok (.iconst 1, 1) := by decide +kernel
theorem dX7_plan_30 : decode cX7_plan 30 = .ok (.goto 4, 3) := by decide +kernel
theorem dX7_plan_33 : decode cX7_plan 33 = .ok (.iconst 0, 1) := by decide +kernel
theorem dX7_plan_34 : decode cX7_plan 34 = .ok (.istore 5, 2) := by decide +kernel
theorem dX7_plan_36 : decode cX7_plan 36 = .ok (.aload_n 0, 1) := by decide +kernel
theorem dX7_plan_37 : decode cX7_plan 37 = .ok (.aload_n 0, 1) := by decide +kernel
theorem dX7_plan_38 : decode cX7_plan 38 = .ok (.iload_n 1, 1) := by decide +kernel
theorem dX7_plan_39 : decode cX7_plan 39 = .ok (.invokevirtual 76, 3) := by decide +kernel
theorem dX7_plan_42 : decode cX7_plan 42 = .ok (.ifCond .ne 7, 3) := by decide +kernel
theorem dX7_plan_45 : decode cX7_plan 45 = .ok (.iconst 1, 1) := by decide +kernel
theorem dX7_plan_46 : decode cX7_plan 46 = .ok (.goto 26, 3) := by decide +kernel
theorem dX7_plan_49 : decode cX7_plan 49 = .ok (.iload 5, 2) := by decide +kernel
theorem dX7_plan_51 : decode cX7_plan 51 = .ok (.ifCond .ne 7, 3) := by decide +kernel
theorem dX7_plan_54 : decode cX7_plan 54 = .ok (.iconst 2, 1) := by decide +kernel
theorem dX7_plan_55 : decode cX7_plan 55 = .ok (.goto 17, 3) := by decide +kernel
theorem dX7_plan_58 : decode cX7_plan 58 = .ok (.aload_n 0, 1) := by decide +kernel
theorem dX7_plan_59 : decode cX7_plan 59 = .ok (.getfield 113, 3) := by decide +kernel
theorem dX7_plan_62 : decode cX7_plan 62 = .ok (.bipush 30, 2) := by decide +kernel
theorem dX7_plan_64 : decode cX7_plan 64 = .ok (.if_icmp .ne 7, 3) := by decide +kernel
theorem dX7_plan_67 : decode cX7_plan 67 = .ok (.iconst 3, 1) := by decide +kernel
theorem dX7_plan_68 : decode cX7_plan 68 = .ok (.goto 4, 3) := by decide +kernel
theorem dX7_plan_71 : decode cX7_plan 71 = .ok (.iconst 0, 1) := by decide +kernel
theorem dX7_plan_72 : decode cX7_plan 72 = .ok (.putfield 69, 3) := by decide +kernel
theorem dX7_plan_75 : decode cX7_plan 75 = .ok (.aload_n 0, 1) := by decide +kernel
theorem dX7_plan_76 : decode cX7_plan 76 = .ok (.getfield 69, 3) := by decide +kernel
theorem dX7_plan_79 : decode cX7_plan 79 = .ok (.ifCond .le 5, 3) := by decide +kernel
theorem dX7_plan_82 : decode cX7_plan 82 = .ok (.iconst 0, 1) := by decide +kernel
theorem dX7_plan_83 : decode cX7_plan 83 = .ok (.ireturn, 1) := by decide +kernel
theorem dX7_plan_84 : decode cX7_plan 84 = .ok (.aload_n 0, 1) := by decide +kernel
theorem dX7_plan_85 : decode cX7_plan 85 = .ok (.getfield 45, 3) := by decide +kernel
theorem dX7_plan_88 : decode cX7_plan 88 = .ok (.aload_n 0, 1) := by decide +kernel
theorem dX7_plan_89 : decode cX7_plan 89 = .ok (.getfield 113, 3) := by decide +kernel
theorem dX7_plan_92 : decode cX7_plan 92 = .ok (.iload_n 1, 1) := by decide +kernel
theorem dX7_plan_93 : decode cX7_plan 93 = .ok (.iastore, 1) := by decide +kernel
theorem dX7_plan_94 : decode cX7_plan 94 = .ok (.aload_n 0, 1) := by decide +kernel
theorem dX7_plan_95 : decode cX7_plan 95 = .ok (.getfield 48, 3) := by decide +kernel
theorem dX7_plan_98 : decode cX7_plan 98 = .ok (.aload_n 0, 1) := by decide +kernel
theorem dX7_plan_99 : decode cX7_plan 99 = .ok (.getfield 113, 3) := by decide +kernel
theorem dX7_plan_102 : decode cX7_plan 102 = .ok (.iload_n 2, 1) := by decide +kernel
theorem dX7_plan_103 : decode cX7_plan 103 = .ok (.iastore, 1) := by decide +kernel
theorem dX7_plan_104 : decode cX7_plan 104 = .ok (.aload_n 0, 1) := by decide +kernel
theorem dX7_plan_105 : decode cX7_plan 105 = .ok (.getfield 51, 3) := by decide +kernel
theorem dX7_plan_108 : decode cX7_plan 108 = .ok (.aload_n 0, 1) := by decide +kernel
theorem dX7_plan_109 : decode cX7_plan 109 = .ok (.getfield 113, 3) := by decide +kernel
theorem dX7_plan_112 : decode cX7_plan 112 = .ok (.iload_n 3, 1) := by decide +kernel
theorem dX7_plan_113 : decode cX7_plan 113 = .ok (.iastore, 1) := by decide +kernel
theorem dX7_plan_114 : decode cX7_plan 114 = .ok (.aload_n 0, 1) := by decide +kernel
theorem dX7_plan_115 : decode cX7_plan 115 = .ok (.getfield 54, 3) := by decide +kernel
theorem dX7_plan_118 : decode cX7_plan 118 = .ok (.aload_n 0, 1) := by decide +kernel
theorem dX7_plan_119 : decode cX7_plan 119 = .ok (.getfield 113, 3) := by decide +kernel
theorem dX7_plan_122 : decode cX7_plan 122 = .ok (.iload 4, 2) := by decide +kernel
theorem dX7_plan_124 : decode cX7_plan 124 = .ok (.iastore, 1) := by decide +kernel
theorem dX7_plan_125 : decode cX7_plan 125 = .ok (.aload_n 0, 1) := by decide +kernel
theorem dX7_plan_126 : decode cX7_plan 126 = .ok (.getfield 63, 3) := by decide +kernel
theorem dX7_plan_129 : decode cX7_plan 129 = .ok (.aload_n 0, 1) := by decide +kernel
theorem dX7_plan_130 : decode cX7_plan 130 = .ok (.getfield 113, 3) := by decide +kernel
theorem dX7_plan_133 : decode cX7_plan 133 = .ok (.iconst (-1), 1) := by decide +kernel
theorem dX7_plan_134 : decode cX7_plan 134 = .ok (.iastore, 1) := by decide +kernel
theorem dX7_plan_135 : decode cX7_plan 135 = .ok (.aload_n 0, 1) := by decide +kernel
theorem dX7_plan_136 : decode cX7_plan 136 = .ok (.dup, 1) := by decide +kernel
theorem dX7_plan_137 : decode cX7_plan 137 = .ok (.getfield 113, 3) := by decide +kernel
theorem dX7_plan_140 : decode cX7_plan 140 = .ok (.iconst 1, 1) := by decide +kernel
theorem dX7_plan_141 : decode cX7_plan 141 = .ok (.iadd, 1) := by decide +kernel
theorem dX7_plan_142 : decode cX7_plan 142 = .ok (.putfield 113, 3) := by decide +kernel
theorem dX7_plan_145 : decode cX7_plan 145 = .ok (.aload_n 0, 1) := by decide +kernel
theorem dX7_plan_146 : decode cX7_plan 146 = .ok (.getfield 113, 3) := by decide +kernel
theorem dX7_plan_149 : decode cX7_plan 149 = .ok (.iconst 1, 1) := by decide +kernel
theorem dX7_plan_150 : decode cX7_plan 150 = .ok (.isub, 1) := by decide +kernel
theorem dX7_plan_151 : decode cX7_plan 151 = .ok (.ireturn, 1) := by decide +kernel
theorem dX7_isChange_0 : decode cX7_isChange 0 = .ok (.iload_n 1, 1) := by decide +kernel
theorem dX7_isChange_1 : decode cX7_isChange 1 = .ok (.iconst 0, 1) := by decide +kernel
theorem dX7_isChange_2 : decode cX7_isChange 2 = .ok (.aload_n 0, 1) := by decide +kernel
theorem dX7_isChange_3 : decode cX7_isChange 3 = .ok (.getfield 113, 3) := by decide +kernel
theorem dX7_isChange_6 : decode cX7_isChange 6 = .ok (.iconst 1, 1) := by decide +kernel
theorem dX7_isChange_7 : decode cX7_isChange 7 = .ok (.isub, 1) := by decide +kernel
theorem dX7_isChange_8 : decode cX7_isChange 8 = .ok (.invokestatic 72, 3) := by decide +kernel
theorem dX7_isChange_11 : decode cX7_isChange 11 = .ok (.ireturn, 1) := by decide +kernel
theorem dX7_touches_0 : decode cX7_touches 0 = .ok (.aload_n 0, 1) := by decide +kernel
theorem dX7_touches_1 : decode cX7_touches 1 = .ok (.getfield 63, 3) := by decide +kernel
theorem dX7_touches_4 : decode cX7_touches 4 = .ok (.iload_n 2, 1) := by decide +kernel
theorem dX7_touches_5 : decode cX7_touches 5 = .ok (.iaload, 1) := by decide +kernel
theorem dX7_touches_6 : decode cX7_touches 6 = .ok (.iconst (-1), 1) := by decide +kernel
theorem dX7_touches_7 : decode cX7_touches 7 = .ok (.if_icmp .eq 17, 3) := by decide +kernel
theorem dX7_touches_10 : decode cX7_touches 10 = .ok (.iload_n 1, 1) := by decide +kernel
theorem dX7_touches_11 : decode cX7_touches 11 = .ok (.aload_n 0, 1) := by decide +kernel
theorem dX7_touches_12 : decode cX7_touches 12 = .ok (.getfield 63, 3) := by decide +kernel
theorem dX7_touches_15 : decode cX7_touches 15 = .ok (.iload_n 2, 1) := by decide +kernel
theorem dX7_touches_16 : decode cX7_touches 16 = .ok (.iaload, 1) := by decide +kernel
theorem dX7_touches_17 : decode cX7_touches 17 = .ok (.if_icmp .lt 7, 3) := by decide +kernel
theorem dX7_touches_20 : decode cX7_touches 20 = .ok (.iconst 1, 1) := by decide +kernel
theorem dX7_touches_21 : decode cX7_touches 21 = .ok (.goto 4, 3) := by decide +kernel
theorem dX7_touches_24 : decode cX7_touches 24 = .ok (.iconst 0, 1) := by decide +kernel
theorem dX7_touches_25 : decode cX7_touches 25 = .ok (.istore_n 3, 1) := by decide +kernel
theorem dX7_touches_26 : decode cX7_touches 26 = .ok (.aload_n 0, 1) := by decide +kernel
theorem dX7_touches_27 : decode cX7_touches 27 = .ok (.getfield 24, 3) := by decide +kernel
theorem dX7_touches_30 : decode cX7_touches 30 = .ok (.iload_n 1, 1) := by decide +kernel
theorem dX7_touches_31 : decode cX7_touches 31 = .ok (.baload, 1) := by decide +kernel
theorem dX7_touches_32 : decode cX7_touches 32 = .ok (.ifCond .ne 25, 3) := by decide +kernel
theorem dX7_touches_35 : decode cX7_touches 35 = .ok (.iload_n 3, 1) := by decide +kernel
theorem dX7_touches_36 : decode cX7_touches 36 = .ok (.ifCond .ne 21, 3) := by decide +kernel
theorem dX7_touches_39 : decode cX7_touches 39 = .ok (.aload_n 0, 1) := by decide +kernel
theorem dX7_touches_40 : decode cX7_touches 40 = .ok (.iload_n 1, 1) := by decide +kernel
theorem dX7_touches_41 : decode cX7_touches 41 = .ok (.aload_n 0, 1) := by decide +kernel
theorem dX7_touches_42 : decode cX7_touches 42 = .ok (.getfield 45, 3) := by decide +kernel
theorem dX7_touches_45 : decode cX7_touches 45 = .ok (.iload_n 2, 1) := by decide +kernel
theorem dX7_touches_46 : decode cX7_touches 46 = .ok (.iaload, 1) := by decide +kernel
theorem dX7_touches_47 : decode cX7_touches 47 = .ok (.invokevirtual 100, 3) := by decide +kernel
