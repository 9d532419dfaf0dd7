theorem dX7_touches_50 : decode cX7_touches 50 = .ok (.ifCond .eq 7, 3) := by decide +kernel
theorem dX7_touches_53 : decode cX7_touches 53 = .ok (.iconst 1, 1) := by decide +kernel
theorem dX7_touches_54 : decode cX7_touches 54 = .ok (.goto 4, 3) := by decide +kernel
theorem dX7_touches_57 : decode cX7_touches 57 = .ok (.iconst 0, 1) := by decide +kernel
theorem dX7_touches_58 : decode cX7_touches 58 = .ok (.ireturn, 1) := by decide +kernel
theorem dX7_against_0 : decode cX7_against 0 = .ok (.iconst 0, 1) := by decide +kernel
theorem dX7_against_1 : decode cX7_against 1 = .ok (.istore_n 3, 1) := by decide +kernel
theorem dX7_against_2 : decode cX7_against 2 = .ok (.iconst 0, 1) := by decide +kernel
theorem dX7_against_3 : decode cX7_against 3 = .ok (.istore 4, 2) := by decide +kernel
theorem dX7_against_5 : decode cX7_against 5 = .ok (.iload 4, 2) := by decide +kernel
theorem dX7_against_7 : decode cX7_against 7 = .ok (.aload_n 0, 1) := by decide +kernel
theorem dX7_against_8 : decode cX7_against 8 = .ok (.getfield 86, 3) := by decide +kernel
theorem dX7_against_11 : decode cX7_against 11 = .ok (.if_icmp .ge 67, 3) := by decide +kernel
theorem dX7_against_14 : decode cX7_against 14 = .ok (.aload_n 0, 1) := by decide +kernel
theorem dX7_against_15 : decode cX7_against 15 = .ok (.getfield 60, 3) := by decide +kernel
theorem dX7_against_18 : decode cX7_against 18 = .ok (.iload_n 1, 1) := by decide +kernel
theorem dX7_against_19 : decode cX7_against 19 = .ok (.iaload, 1) := by decide +kernel
theorem dX7_against_20 : decode cX7_against 20 = .ok (.iload 4, 2) := by decide +kernel
theorem dX7_against_22 : decode cX7_against 22 = .ok (.ishr, 1) := by decide +kernel
theorem dX7_against_23 : decode cX7_against 23 = .ok (.iconst 1, 1) := by decide +kernel
theorem dX7_against_24 : decode cX7_against 24 = .ok (.iand, 1) := by decide +kernel
theorem dX7_against_25 : decode cX7_against 25 = .ok (.iconst 1, 1) := by decide +kernel
theorem dX7_against_26 : decode cX7_against 26 = .ok (.if_icmp .ne 7, 3) := by decide +kernel
theorem dX7_against_29 : decode cX7_against 29 = .ok (.iconst 1, 1) := by decide +kernel
theorem dX7_against_30 : decode cX7_against 30 = .ok (.goto 4, 3) := by decide +kernel
theorem dX7_against_33 : decode cX7_against 33 = .ok (.iconst 0, 1) := by decide +kernel
theorem dX7_against_34 : decode cX7_against 34 = .ok (.istore 5, 2) := by decide +kernel
theorem dX7_against_36 : decode cX7_against 36 = .ok (.iload_n 3, 1) := by decide +kernel
theorem dX7_against_37 : decode cX7_against 37 = .ok (.iload 5, 2) := by decide +kernel
theorem dX7_against_39 : decode cX7_against 39 = .ok (.ifCond .ne 30, 3) := by decide +kernel
theorem dX7_against_42 : decode cX7_against 42 = .ok (.aload_n 0, 1) := by decide +kernel
theorem dX7_against_43 : decode cX7_against 43 = .ok (.iload 4, 2) := by decide +kernel
theorem dX7_against_45 : decode cX7_against 45 = .ok (.iload_n 1, 1) := by decide +kernel
theorem dX7_against_46 : decode cX7_against 46 = .ok (.invokevirtual 116, 3) := by decide +kernel
theorem dX7_against_49 : decode cX7_against 49 = .ok (.ifCond .eq 20, 3) := by decide +kernel
theorem dX7_against_52 : decode cX7_against 52 = .ok (.aload_n 0, 1) := by decide +kernel
theorem dX7_against_53 : decode cX7_against 53 = .ok (.iload 4, 2) := by decide +kernel
theorem dX7_against_55 : decode cX7_against 55 = .ok (.iload_n 2, 1) := by decide +kernel
theorem dX7_against_56 : decode cX7_against 56 = .ok (.invokevirtual 103, 3) := by decide +kernel
theorem dX7_against_59 : decode cX7_against 59 = .ok (.ifCond .eq 10, 3) := by decide +kernel
theorem dX7_against_62 : decode cX7_against 62 = .ok (.iconst 1, 1) := by decide +kernel
theorem dX7_against_63 : decode cX7_against 63 = .ok (.iload 4, 2) := by decide +kernel
theorem dX7_against_65 : decode cX7_against 65 = .ok (.ishl, 1) := by decide +kernel
theorem dX7_against_66 : decode cX7_against 66 = .ok (.goto 4, 3) := by decide +kernel
theorem dX7_against_69 : decode cX7_against 69 = .ok (.iconst 0, 1) := by decide +kernel
theorem dX7_against_70 : decode cX7_against 70 = .ok (.ior, 1) := by decide +kernel
theorem dX7_against_71 : decode cX7_against 71 = .ok (.istore_n 3, 1) := by decide +kernel
theorem dX7_against_72 : decode cX7_against 72 = .ok (.iinc 4 1, 3) := by decide +kernel
theorem dX7_against_75 : decode cX7_against 75 = .ok (.goto (-70), 3) := by decide +kernel
theorem dX7_against_78 : decode cX7_against 78 = .ok (.iload_n 3, 1) := by decide +kernel
theorem dX7_against_79 : decode cX7_against 79 = .ok (.ireturn, 1) := by decide +kernel
theorem dX7_bad_0 : decode cX7_bad 0 = .ok (.iconst 0, 1) := by decide +kernel
theorem dX7_bad_1 : decode cX7_bad 1 = .ok (.istore_n 2, 1) := by decide +kernel
theorem dX7_bad_2 : decode cX7_bad 2 = .ok (.aload_n 0, 1) := by decide +kernel
theorem dX7_bad_3 : decode cX7_bad 3 = .ok (.getfield 48, 3) := by decide +kernel
theorem dX7_bad_6 : decode cX7_bad 6 = .ok (.iload_n 1, 1) := by decide +kernel
theorem dX7_bad_7 : decode cX7_bad 7 = .ok (.iaload, 1) := by decide +kernel
theorem dX7_bad_8 : decode cX7_bad 8 = .ok (.istore_n 3, 1) := by decide +kernel
theorem dX7_bad_9 : decode cX7_bad 9 = .ok (.iload_n 3, 1) := by decide +kernel
theorem dX7_bad_10 : decode cX7_bad 10 = .ok (.aload_n 0, 1) := by decide +kernel
theorem dX7_bad_11 : decode cX7_bad 11 = .ok (.getfield 48, 3) := by decide +kernel
theorem dX7_bad_14 : decode cX7_bad 14 = .ok (.iload_n 1, 1) := by decide +kernel
theorem dX7_bad_15 : decode cX7_bad 15 = .ok (.iaload, 1) := by decide +kernel
theorem dX7_bad_16 : decode cX7_bad 16 = .ok (.aload_n 0, 1) := by decide +kernel
theorem dX7_bad_17 : decode cX7_bad 17 = .ok (.getfield 51, 3) := by decide +kernel
theorem dX7_bad_20 : decode cX7_bad 20 = .ok (.iload_n 1, 1) := by decide +kernel
theorem dX7_bad_21 : decode cX7_bad 21 = .ok (.iaload, 1) := by decide +kernel
theorem dX7_bad_22 : decode cX7_bad 22 = .ok (.iadd, 1) := by decide +kernel
theorem dX7_bad_23 : decode cX7_bad 23 = .ok (.if_icmp .ge 26, 3) := by decide +kernel
theorem dX7_bad_26 : decode cX7_bad 26 = .ok (.iload_n 2, 1) := by decide +kernel
theorem dX7_bad_27 : decode cX7_bad 27 = .ok (.aload_n 0, 1) := by decide +kernel
theorem dX7_bad_28 : decode cX7_bad 28 = .ok (.iload_n 1, 1) := by decide +kernel
theorem dX7_bad_29 : decode cX7_bad 29 = .ok (.iload_n 3, 1) := by decide +kernel
theorem dX7_bad_30 : decode cX7_bad 30 = .ok (.invokevirtual 119, 3) := by decide +kernel
theorem dX7_bad_33 : decode cX7_bad 33 = .ok (.ifCond .ne 7, 3) := by decide +kernel
theorem dX7_bad_36 : decode cX7_bad 36 = .ok (.iconst 0, 1) := by decide +kernel
theorem dX7_bad_37 : decode cX7_bad 37 = .ok (.goto 4, 3) := by decide +kernel
theorem dX7_bad_40 : decode cX7_bad 40 = .ok (.iconst 1, 1) := by decide +kernel
theorem dX7_bad_41 : decode cX7_bad 41 = .ok (.iadd, 1) := by decide +kernel
theorem dX7_bad_42 : decode cX7_bad 42 = .ok (.istore_n 2, 1) := by decide +kernel
theorem dX7_bad_43 : decode cX7_bad 43 = .ok (.iinc 3 1, 3) := by decide +kernel
theorem dX7_bad_46 : decode cX7_bad 46 = .ok (.goto (-37), 3) := by decide +kernel
theorem dX7_bad_49 : decode cX7_bad 49 = .ok (.iload_n 2, 1) := by decide +kernel
theorem dX7_bad_50 : decode cX7_bad 50 = .ok (.ireturn, 1) := by decide +kernel
theorem dX7_move_0 : decode cX7_move 0 = .ok (.aload_n 0, 1) := by decide +kernel
theorem dX7_move_1 : decode cX7_move 1 = .ok (.iload_n 1, 1) := by decide +kernel
theorem dX7_move_2 : decode cX7_move 2 = .ok (.invokevirtual 122, 3) := by decide +kernel
theorem dX7_move_5 : decode cX7_move 5 = .ok (.ifCond .eq 21, 3) := by decide +kernel
theorem dX7_move_8 : decode cX7_move 8 = .ok (.aload_n 0, 1) := by decide +kernel
theorem dX7_move_9 : decode cX7_move 9 = .ok (.iload_n 2, 1) := by decide +kernel
theorem dX7_move_10 : decode cX7_move 10 = .ok (.aload_n 0, 1) := by decide +kernel
theorem dX7_move_11 : decode cX7_move 11 = .ok (.getfield 51, 3) := by decide +kernel
theorem dX7_move_14 : decode cX7_move 14 = .ok (.iload_n 1, 1) := by decide +kernel
theorem dX7_move_15 : decode cX7_move 15 = .ok (.iaload, 1) := by decide +kernel
theorem dX7_move_16 : decode cX7_move 16 = .ok (.invokevirtual 110, 3) := by decide +kernel
theorem dX7_move_19 : decode cX7_move 19 = .ok (.ifCond .eq 7, 3) := by decide +kernel
theorem dX7_move_22 : decode cX7_move 22 = .ok (.iconst 1, 1) := by decide +kernel
theorem dX7_move_23 : decode cX7_move 23 = .ok (.goto 4, 3) := by decide +kernel
theorem dX7_move_26 : decode cX7_move 26 = .ok (.iconst 0, 1) := by decide +kernel
theorem dX7_move_27 : decode cX7_move 27 = .ok (.istore_n 3, 1) := by decide +kernel
theorem dX7_move_28 : decode cX7_move 28 = .ok (.aload_n 0, 1) := by decide +kernel
theorem dX7_move_29 : decode cX7_move 29 = .ok (.aload_n 0, 1) := by decide +kernel
theorem dX7_move_30 : decode cX7_move 30 = .ok (.iload_n 1, 1) := by decide +kernel
theorem dX7_move_31 : decode cX7_move 31 = .ok (.invokevirtual 122, 3) := by decide +kernel
theorem dX7_move_34 : decode cX7_move 34 = .ok (.ifCond .ne 7, 3) := by decide +kernel
theorem dX7_move_37 : decode cX7_move 37 = .ok (.iconst 1, 1) := by decide +kernel
theorem dX7_move_38 : decode cX7_move 38 = .ok (.goto 26, 3) := by decide +kernel
theorem dX7_move_41 : decode cX7_move 41 = .ok (.iload_n 3, 1) := by decide +kernel
theorem dX7_move_42 : decode cX7_move 42 = .ok (.ifCond .ne 7, 3) := by decide +kernel
theorem dX7_move_45 : decode cX7_move 45 = .ok (.iconst 2, 1) := by decide +kernel
theorem dX7_move_46 : decode cX7_move 46 = .ok (.goto 18, 3) := by decide +kernel
theorem dX7_move_49 : decode cX7_move 49 = .ok (.aload_n 0, 1) := by decide +kernel
theorem dX7_move_50 : decode cX7_move 50 = .ok (.getfield 63, 3) := by decide +kernel
theorem dX7_move_53 : decode cX7_move 53 = .ok (.iload_n 1, 1) := by decide +kernel
theorem dX7_move_54 : decode cX7_move 54 = .ok (.iaload, 1) := by decide +kernel
theorem dX7_move_55 : decode cX7_move 55 = .ok (.iconst (-1), 1) := by decide +kernel
theorem dX7_move_56 : decode cX7_move 56 = .ok (.if_icmp .eq 7, 3) := by decide +kernel
theorem dX7_move_59 : decode cX7_move 59 = .ok (.iconst 3, 1) := by decide +kernel
theorem dX7_move_60 : decode cX7_move 60 = .ok (.goto 4, 3) := by decide +kernel
theorem dX7_move_63 : decode cX7_move 63 = .ok (.iconst 0, 1) := by decide +kernel
theorem dX7_move_64 : decode cX7_move 64 = .ok (.putfield 69, 3) := by decide +kernel
theorem dX7_move_67 : decode cX7_move 67 = .ok (.aload_n 0, 1) := by decide +kernel
theorem dX7_move_68 : decode cX7_move 68 = .ok (.getfield 69, 3) := by decide +kernel
theorem dX7_move_71 : decode cX7_move 71 = .ok (.ifCond .le 5, 3) := by decide +kernel
theorem dX7_move_74 : decode cX7_move 74 = .ok (.iconst 0, 1) := by decide +kernel
theorem dX7_move_75 : decode cX7_move 75 = .ok (.ireturn, 1) := by decide +kernel
theorem dX7_move_76 : decode cX7_move 76 = .ok (.aload_n 0, 1) := by decide +kernel
theorem dX7_move_77 : decode cX7_move 77 = .ok (.getfield 48, 3) := by decide +kernel
theorem dX7_move_80 : decode cX7_move 80 = .ok (.iload_n 1, 1) := by decide +kernel
theorem dX7_move_81 : decode cX7_move 81 = .ok (.iload_n 2, 1) := by decide +kernel
theorem dX7_move_82 : decode cX7_move 82 = .ok (.iastore, 1) := by decide +kernel
theorem dX7_move_83 : decode cX7_move 83 = .ok (.aload_n 0, 1) := by decide +kernel
theorem dX7_move_84 : decode cX7_move 84 = .ok (.getfield 57, 3) := by decide +kernel
theorem dX7_move_87 : decode cX7_move 87 = .ok (.iload_n 1, 1) := by decide +kernel
theorem dX7_move_88 : decode cX7_move 88 = .ok (.iconst 0, 1) := by decide +kernel
theorem dX7_move_89 : decode cX7_move 89 = .ok (.iastore, 1) := by decide +kernel
theorem dX7_move_90 : decode cX7_move 90 = .ok (.aload_n 0, 1) := by decide +kernel
theorem dX7_move_91 : decode cX7_move 91 = .ok (.getfield 60, 3) := by decide +kernel
theorem dX7_move_94 : decode cX7_move 94 = .ok (.iload_n 1, 1) := by decide +kernel
theorem dX7_move_95 : decode cX7_move 95 = .ok (.iconst 0, 1) := by decide +kernel
theorem dX7_move_96 : decode cX7_move 96 = .ok (.iastore, 1) := by decide +kernel
theorem dX7_move_97 : decode cX7_move 97 = .ok (.aload_n 0, 1) := by decide +kernel
theorem dX7_move_98 : decode cX7_move 98 = .ok (.iload_n 1, 1) := by decide +kernel
theorem dX7_move_99 : decode cX7_move 99 = .ok (.invokevirtual 125, 3) := by decide +kernel
theorem dX7_move_102 : decode cX7_move 102 = .ok (.ireturn, 1) := by decide +kernel
theorem dX7_approve_0 : decode cX7_approve 0 = .ok (.aload_n 0, 1) := by decide +kernel
theorem dX7_approve_1 : decode cX7_approve 1 = .ok (.aload_n 0, 1) := by decide +kernel
theorem dX7_approve_2 : decode cX7_approve 2 = .ok (.iload_n 1, 1) := by decide +kernel
theorem dX7_approve_3 : decode cX7_approve 3 = .ok (.invokevirtual 122, 3) := by decide +kernel
theorem dX7_approve_6 : decode cX7_approve 6 = .ok (.ifCond .ne 7, 3) := by decide +kernel
theorem dX7_approve_9 : decode cX7_approve 9 = .ok (.iconst 1, 1) := by decide +kernel
theorem dX7_approve_10 : decode cX7_approve 10 = .ok (.goto 33, 3) := by decide +kernel
theorem dX7_approve_13 : decode cX7_approve 13 = .ok (.aload_n 0, 1) := by decide +kernel
theorem dX7_approve_14 : decode cX7_approve 14 = .ok (.getfield 63, 3) := by decide +kernel
theorem dX7_approve_17 : decode cX7_approve 17 = .ok (.iload_n 1, 1) := by decide +kernel
theorem dX7_approve_18 : decode cX7_approve 18 = .ok (.iaload, 1) := by decide +kernel
theorem dX7_approve_19 : decode cX7_approve 19 = .ok (.iconst (-1), 1) := by decide +kernel
theorem dX7_approve_20 : decode cX7_approve 20 = .ok (.if_icmp .ne 18, 3) := by decide +kernel
theorem dX7_approve_23 : decode cX7_approve 23 = .ok (.aload_n 0, 1) := by decide +kernel
theorem dX7_approve_24 : decode cX7_approve 24 = .ok (.getfield 57, 3) := by decide +kernel
theorem dX7_approve_27 : decode cX7_approve 27 = .ok (.iload_n 1, 1) := by decide +kernel
theorem dX7_approve_28 : decode cX7_approve 28 = .ok (.iaload, 1) := by decide +kernel
theorem dX7_approve_29 : decode cX7_approve 29 = .ok (.aload_n 0, 1) := by decide +kernel
theorem dX7_approve_30 : decode cX7_approve 30 = .ok (.getfield 54, 3) := by decide +kernel
theorem dX7_approve_33 : decode cX7_approve 33 = .ok (.iload_n 1, 1) := by decide +kernel
theorem dX7_approve_34 : decode cX7_approve 34 = .ok (.iaload, 1) := by decide +kernel
theorem dX7_approve_35 : decode cX7_approve 35 = .ok (.if_icmp .ne 7, 3) := by decide +kernel
theorem dX7_approve_38 : decode cX7_approve 38 = .ok (.iconst 2, 1) := by decide +kernel
theorem dX7_approve_39 : decode cX7_approve 39 = .ok (.goto 4, 3) := by decide +kernel
theorem dX7_approve_42 : decode cX7_approve 42 = .ok (.iconst 0, 1) := by decide +kernel
theorem dX7_approve_43 : decode cX7_approve 43 = .ok (.putfield 69, 3) := by decide +kernel
theorem dX7_approve_46 : decode cX7_approve 46 = .ok (.aload_n 0, 1) := by decide +kernel
theorem dX7_approve_47 : decode cX7_approve 47 = .ok (.getfield 69, 3) := by decide +kernel
theorem dX7_approve_50 : decode cX7_approve 50 = .ok (.ifCond .le 5, 3) := by decide +kernel
theorem dX7_approve_53 : decode cX7_approve 53 = .ok (.iconst 0, 1) := by decide +kernel
theorem dX7_approve_54 : decode cX7_approve 54 = .ok (.ireturn, 1) := by decide +kernel
theorem dX7_approve_55 : decode cX7_approve 55 = .ok (.aload_n 0, 1) := by decide +kernel
theorem dX7_approve_56 : decode cX7_approve 56 = .ok (.getfield 57, 3) := by decide +kernel
theorem dX7_approve_59 : decode cX7_approve 59 = .ok (.iload_n 1, 1) := by decide +kernel
theorem dX7_approve_60 : decode cX7_approve 60 = .ok (.dup2, 1) := by decide +kernel
theorem dX7_approve_61 : decode cX7_approve 61 = .ok (.iaload, 1) := by decide +kernel
theorem dX7_approve_62 : decode cX7_approve 62 = .ok (.iconst 1, 1) := by decide +kernel
theorem dX7_approve_63 : decode cX7_approve 63 = .ok (.iadd, 1) := by decide +kernel
theorem dX7_approve_64 : decode cX7_approve 64 = .ok (.iastore, 1) := by decide +kernel
theorem dX7_approve_65 : decode cX7_approve 65 = .ok (.aload_n 0, 1) := by decide +kernel
theorem dX7_approve_66 : decode cX7_approve 66 = .ok (.getfield 57, 3) := by decide +kernel
theorem dX7_approve_69 : decode cX7_approve 69 = .ok (.iload_n 1, 1) := by decide +kernel
theorem dX7_approve_70 : decode cX7_approve 70 = .ok (.iaload, 1) := by decide +kernel
theorem dX7_approve_71 : decode cX7_approve 71 = .ok (.ireturn, 1) := by decide +kernel
theorem dX7_begin_0 : decode cX7_begin 0 = .ok (.aload_n 0, 1) := by decide +kernel
theorem dX7_begin_1 : decode cX7_begin 1 = .ok (.aload_n 0, 1) := by decide +kernel
theorem dX7_begin_2 : decode cX7_begin 2 = .ok (.iload_n 1, 1) := by decide +kernel
theorem dX7_begin_3 : decode cX7_begin 3 = .ok (.invokevirtual 122, 3) := by decide +kernel
theorem dX7_begin_6 : decode cX7_begin 6 = .ok (.ifCond .eq 7, 3) := by decide +kernel
theorem dX7_begin_9 : decode cX7_begin 9 = .ok (.iconst 0, 1) := by decide +kernel
theorem dX7_begin_10 : decode cX7_begin 10 = .ok (.goto 4, 3) := by decide +kernel
theorem dX7_begin_13 : decode cX7_begin 13 = .ok (.iconst 1, 1) := by decide +kernel
theorem dX7_begin_14 : decode cX7_begin 14 = .ok (.putfield 69, 3) := by decide +kernel
theorem dX7_begin_17 : decode cX7_begin 17 = .ok (.aload_n 0, 1) := by decide +kernel
theorem dX7_begin_18 : decode cX7_begin 18 = .ok (.getfield 69, 3) := by decide +kernel
theorem dX7_begin_21 : decode cX7_begin 21 = .ok (.ifCond .le 5, 3) := by decide +kernel
theorem dX7_begin_24 : decode cX7_begin 24 = .ok (.iconst 0, 1) := by decide +kernel
theorem dX7_begin_25 : decode cX7_begin 25 = .ok (.ireturn, 1) := by decide +kernel
theorem dX7_begin_26 : decode cX7_begin 26 = .ok (.aload_n 0, 1) := by decide +kernel
theorem dX7_begin_27 : decode cX7_begin 27 = .ok (.getfield 63, 3) := by decide +kernel
theorem dX7_begin_30 : decode cX7_begin 30 = .ok (.iload_n 1, 1) := by decide +kernel
theorem dX7_begin_31 : decode cX7_begin 31 = .ok (.iaload, 1) := by decide +kernel
theorem dX7_begin_32 : decode cX7_begin 32 = .ok (.iconst (-1), 1) := by decide +kernel
theorem dX7_begin_33 : decode cX7_begin 33 = .ok (.if_icmp .ne 35, 3) := by decide +kernel
theorem dX7_begin_36 : decode cX7_begin 36 = .ok (.aload_n 0, 1) := by decide +kernel
theorem dX7_begin_37 : decode cX7_begin 37 = .ok (.getfield 83, 3) := by decide +kernel
theorem dX7_begin_40 : decode cX7_begin 40 = .ok (.aload_n 0, 1) := by decide +kernel
theorem dX7_begin_41 : decode cX7_begin 41 = .ok (.getfield 48, 3) := by decide +kernel
theorem dX7_begin_44 : decode cX7_begin 44 = .ok (.iload_n 1, 1) := by decide +kernel
theorem dX7_begin_45 : decode cX7_begin 45 = .ok (.iaload, 1) := by decide +kernel
theorem dX7_begin_46 : decode cX7_begin 46 = .ok (.if_icmp .ne 22, 3) := by decide +kernel
theorem dX7_begin_49 : decode cX7_begin 49 = .ok (.aload_n 0, 1) := by decide +kernel
theorem dX7_begin_50 : decode cX7_begin 50 = .ok (.getfield 57, 3) := by decide +kernel
theorem dX7_begin_53 : decode cX7_begin 53 = .ok (.iload_n 1, 1) := by decide +kernel
theorem dX7_begin_54 : decode cX7_begin 54 = .ok (.iaload, 1) := by decide +kernel
theorem dX7_begin_55 : decode cX7_begin 55 = .ok (.aload_n 0, 1) := by decide +kernel
theorem dX7_begin_56 : decode cX7_begin 56 = .ok (.getfield 54, 3) := by decide +kernel
theorem dX7_begin_59 : decode cX7_begin 59 = .ok (.iload_n 1, 1) := by decide +kernel
theorem dX7_begin_60 : decode cX7_begin 60 = .ok (.iaload, 1) := by decide +kernel
theorem dX7_begin_61 : decode cX7_begin 61 = .ok (.if_icmp .ne 7, 3) := by decide +kernel
theorem dX7_begin_64 : decode cX7_begin 64 = .ok (.iconst 1, 1) := by decide +kernel
theorem dX7_begin_65 : decode cX7_begin 65 = .ok (.goto 4, 3) := by decide +kernel
theorem dX7_begin_68 : decode cX7_begin 68 = .ok (.iconst 0, 1) := by decide +kernel
theorem dX7_begin_69 : decode cX7_begin 69 = .ok (.istore_n 2, 1) := by decide +kernel
theorem dX7_begin_70 : decode cX7_begin 70 = .ok (.aload_n 0, 1) := by decide +kernel
theorem dX7_begin_71 : decode cX7_begin 71 = .ok (.iload_n 2, 1) := by decide +kernel
theorem dX7_begin_72 : decode cX7_begin 72 = .ok (.ifCond .eq 15, 3) := by decide +kernel
theorem dX7_begin_75 : decode cX7_begin 75 = .ok (.aload_n 0, 1) := by decide +kernel
theorem dX7_begin_76 : decode cX7_begin 76 = .ok (.iload_n 1, 1) := by decide +kernel
theorem dX7_begin_77 : decode cX7_begin 77 = .ok (.invokevirtual 125, 3) := by decide +kernel
theorem dX7_begin_80 : decode cX7_begin 80 = .ok (.ifCond .ne 7, 3) := by decide +kernel
theorem dX7_begin_83 : decode cX7_begin 83 = .ok (.iconst 0, 1) := by decide +kernel
theorem dX7_begin_84 : decode cX7_begin 84 = .ok (.goto 4, 3) := by decide +kernel
theorem dX7_begin_87 : decode cX7_begin 87 = .ok (.iconst 2, 1) := by decide +kernel
theorem dX7_begin_88 : decode cX7_begin 88 = .ok (.putfield 69, 3) := by decide +kernel
theorem dX7_begin_91 : decode cX7_begin 91 = .ok (.aload_n 0, 1) := by decide +kernel
theorem dX7_begin_92 : decode cX7_begin 92 = .ok (.getfield 69, 3) := by decide +kernel
theorem dX7_begin_95 : decode cX7_begin 95 = .ok (.ifCond .le 5, 3) := by decide +kernel
theorem dX7_begin_98 : decode cX7_begin 98 = .ok (.iconst 0, 1) := by decide +kernel
theorem dX7_begin_99 : decode cX7_begin 99 = .ok (.ireturn, 1) := by decide +kernel
theorem dX7_begin_100 : decode cX7_begin 100 = .ok (.aload_n 0, 1) := by decide +kernel
theorem dX7_begin_101 : decode cX7_begin 101 = .ok (.getfield 63, 3) := by decide +kernel
theorem dX7_begin_104 : decode cX7_begin 104 = .ok (.iload_n 1, 1) := by decide +kernel
theorem dX7_begin_105 : decode cX7_begin 105 = .ok (.aload_n 0, 1) := by decide +kernel
theorem dX7_begin_106 : decode cX7_begin 106 = .ok (.getfield 86, 3) := by decide +kernel
theorem dX7_begin_109 : decode cX7_begin 109 = .ok (.iastore, 1) := by decide +kernel
theorem dX7_begin_110 : decode cX7_begin 110 = .ok (.aload_n 0, 1) := by decide +kernel
theorem dX7_begin_111 : decode cX7_begin 111 = .ok (.getfield 48, 3) := by decide +kernel
theorem dX7_begin_114 : decode cX7_begin 114 = .ok (.iload_n 1, 1) := by decide +kernel
theorem dX7_begin_115 : decode cX7_begin 115 = .ok (.iaload, 1) := by decide +kernel
theorem dX7_begin_116 : decode cX7_begin 116 = .ok (.aload_n 0, 1) := by decide +kernel
theorem dX7_begin_117 : decode cX7_begin 117 = .ok (.getfield 51, 3) := by decide +kernel
theorem dX7_begin_120 : decode cX7_begin 120 = .ok (.iload_n 1, 1) := by decide +kernel
theorem dX7_begin_121 : decode cX7_begin 121 = .ok (.iaload, 1) := by decide +kernel
theorem dX7_begin_122 : decode cX7_begin 122 = .ok (.iadd, 1) := by decide +kernel
theorem dX7_begin_123 : decode cX7_begin 123 = .ok (.ireturn, 1) := by decide +kernel
theorem dX7_state_0 : decode cX7_state 0 = .ok (.aload_n 0, 1) := by decide +kernel
theorem dX7_state_1 : decode cX7_state 1 = .ok (.aload_n 0, 1) := by decide +kernel
theorem dX7_state_2 : decode cX7_state 2 = .ok (.iload_n 1, 1) := by decide +kernel
theorem dX7_state_3 : decode cX7_state 3 = .ok (.invokevirtual 122, 3) := by decide +kernel
theorem dX7_state_6 : decode cX7_state 6 = .ok (.ifCond .eq 7, 3) := by decide +kernel
theorem dX7_state_9 : decode cX7_state 9 = .ok (.iconst 0, 1) := by decide +kernel
theorem dX7_state_10 : decode cX7_state 10 = .ok (.goto 4, 3) := by decide +kernel
theorem dX7_state_13 : decode cX7_state 13 = .ok (.iconst 1, 1) := by decide +kernel
theorem dX7_state_14 : decode cX7_state 14 = .ok (.putfield 69, 3) := by decide +kernel
theorem dX7_state_17 : decode cX7_state 17 = .ok (.aload_n 0, 1) := by decide +kernel
theorem dX7_state_18 : decode cX7_state 18 = .ok (.getfield 69, 3) := by decide +kernel
theorem dX7_state_21 : decode cX7_state 21 = .ok (.ifCond .gt 13, 3) := by decide +kernel
theorem dX7_state_24 : decode cX7_state 24 = .ok (.aload_n 0, 1) := by decide +kernel
theorem dX7_state_25 : decode cX7_state 25 = .ok (.getfield 63, 3) := by decide +kernel
theorem dX7_state_28 : decode cX7_state 28 = .ok (.iload_n 1, 1) := by decide +kernel
theorem dX7_state_29 : decode cX7_state 29 = .ok (.iaload, 1) := by decide +kernel
theorem dX7_state_30 : decode cX7_state 30 = .ok (.iconst (-1), 1) := by decide +kernel
theorem dX7_state_31 : decode cX7_state 31 = .ok (.if_icmp .ne 5, 3) := by decide +kernel
theorem dX7_state_34 : decode cX7_state 34 = .ok (.iconst 0, 1) := by decide +kernel
theorem dX7_state_35 : decode cX7_state 35 = .ok (.ireturn, 1) := by decide +kernel
theorem dX7_state_36 : decode cX7_state 36 = .ok (.aload_n 0, 1) := by decide +kernel
theorem dX7_state_37 : decode cX7_state 37 = .ok (.getfield 83, 3) := by decide +kernel
theorem dX7_state_40 : decode cX7_state 40 = .ok (.aload_n 0, 1) := by decide +kernel
theorem dX7_state_41 : decode cX7_state 41 = .ok (.getfield 48, 3) := by decide +kernel
theorem dX7_state_44 : decode cX7_state 44 = .ok (.iload_n 1, 1) := by decide +kernel
theorem dX7_state_45 : decode cX7_state 45 = .ok (.iaload, 1) := by decide +kernel
theorem dX7_state_46 : decode cX7_state 46 = .ok (.aload_n 0, 1) := by decide +kernel
theorem dX7_state_47 : decode cX7_state 47 = .ok (.getfield 51, 3) := by decide +kernel
theorem dX7_state_50 : decode cX7_state 50 = .ok (.iload_n 1, 1) := by decide +kernel
theorem dX7_state_51 : decode cX7_state 51 = .ok (.iaload, 1) := by decide +kernel
theorem dX7_state_52 : decode cX7_state 52 = .ok (.iadd, 1) := by decide +kernel
theorem dX7_state_53 : decode cX7_state 53 = .ok (.if_icmp .lt 7, 3) := by decide +kernel
theorem dX7_state_56 : decode cX7_state 56 = .ok (.iconst 2, 1) := by decide +kernel
theorem dX7_state_57 : decode cX7_state 57 = .ok (.goto 4, 3) := by decide +kernel
theorem dX7_state_60 : decode cX7_state 60 = .ok (.iconst 1, 1) := by decide +kernel
theorem dX7_state_61 : decode cX7_state 61 = .ok (.ireturn, 1) := by decide +kernel
theorem dX7_approved_0 : decode cX7_approved 0 = .ok (.aload_n 0, 1) := by decide +kernel
theorem dX7_approved_1 : decode cX7_approved 1 = .ok (.aload_n 0, 1) := by decide +kernel
theorem dX7_approved_2 : decode cX7_approved 2 = .ok (.iload_n 1, 1) := by decide +kernel
theorem dX7_approved_3 : decode cX7_approved 3 = .ok (.invokevirtual 122, 3) := by decide +kernel
theorem dX7_approved_6 : decode cX7_approved 6 = .ok (.ifCond .eq 7, 3) := by decide +kernel
theorem dX7_approved_9 : decode cX7_approved 9 = .ok (.iconst 0, 1) := by decide +kernel
theorem dX7_approved_10 : decode cX7_approved 10 = .ok (.goto 4, 3) := by decide +kernel
theorem dX7_approved_13 : decode cX7_approved 13 = .ok (.iconst 1, 1) := by decide +kernel
theorem dX7_approved_14 : decode cX7_approved 14 = .ok (.putfield 69, 3) := by decide +kernel
theorem dX7_approved_17 : decode cX7_approved 17 = .ok (.aload_n 0, 1) := by decide +kernel
theorem dX7_approved_18 : decode cX7_approved 18 = .ok (.getfield 69, 3) := by decide +kernel
theorem dX7_approved_21 : decode cX7_approved 21 = .ok (.ifCond .le 7, 3) := by decide +kernel
theorem dX7_approved_24 : decode cX7_approved 24 = .ok (.iconst 0, 1) := by decide +kernel
theorem dX7_approved_25 : decode cX7_approved 25 = .ok (.goto 9, 3) := by decide +kernel
theorem dX7_approved_28 : decode cX7_approved 28 = .ok (.aload_n 0, 1) := by decide +kernel
theorem dX7_approved_29 : decode cX7_approved 29 = .ok (.getfield 57, 3) := by decide +kernel
theorem dX7_approved_32 : decode cX7_approved 32 = .ok (.iload_n 1, 1) := by decide +kernel
theorem dX7_approved_33 : decode cX7_approved 33 = .ok (.iaload, 1) := by decide +kernel
theorem dX7_approved_34 : decode cX7_approved 34 = .ok (.ireturn, 1) := by decide +kernel
theorem dX7_exceptions_0 : decode cX7_exceptions 0 = .ok (.aload_n 0, 1) := by decide +kernel
theorem dX7_exceptions_1 : decode cX7_exceptions 1 = .ok (.iload_n 1, 1) := by decide +kernel
theorem dX7_exceptions_2 : decode cX7_exceptions 2 = .ok (.iconst 1, 1) := by decide +kernel
theorem dX7_exceptions_3 : decode cX7_exceptions 3 = .ok (.iconst 3, 1) := by decide +kernel
theorem dX7_exceptions_4 : decode cX7_exceptions 4 = .ok (.invokestatic 72, 3) := by decide +kernel
theorem dX7_exceptions_7 : decode cX7_exceptions 7 = .ok (.ifCond .eq 17, 3) := by decide +kernel
theorem dX7_exceptions_10 : decode cX7_exceptions 10 = .ok (.iload_n 2, 1) := by decide +kernel
theorem dX7_exceptions_11 : decode cX7_exceptions 11 = .ok (.iconst 0, 1) := by decide +kernel
theorem dX7_exceptions_12 : decode cX7_exceptions 12 = .ok (.bipush 50, 2) := by decide +kernel
theorem dX7_exceptions_14 : decode cX7_exceptions 14 = .ok (.invokestatic 72, 3) := by decide +kernel
theorem dX7_exceptions_17 : decode cX7_exceptions 17 = .ok (.ifCond .eq 7, 3) := by decide +kernel
theorem dX7_exceptions_20 : decode cX7_exceptions 20 = .ok (.iconst 0, 1) := by decide +kernel
theorem dX7_exceptions_21 : decode cX7_exceptions 21 = .ok (.goto 4, 3) := by decide +kernel
theorem dX7_exceptions_24 : decode cX7_exceptions 24 = .ok (.iconst 1, 1) := by decide +kernel
theorem dX7_exceptions_25 : decode cX7_exceptions 25 = .ok (.putfield 69, 3) := by decide +kernel
theorem dX7_exceptions_28 : decode cX7_exceptions 28 = .ok (.aload_n 0, 1) := by decide +kernel
theorem dX7_exceptions_29 : decode cX7_exceptions 29 = .ok (.getfield 69, 3) := by decide +kernel
theorem dX7_exceptions_32 : decode cX7_exceptions 32 = .ok (.ifCond .le 5, 3) := by decide +kernel
theorem dX7_exceptions_35 : decode cX7_exceptions 35 = .ok (.iconst 0, 1) := by decide +kernel
theorem dX7_exceptions_36 : decode cX7_exceptions 36 = .ok (.ireturn, 1) := by decide +kernel
theorem dX7_exceptions_37 : decode cX7_exceptions 37 = .ok (.aload_n 0, 1) := by decide +kernel
theorem dX7_exceptions_38 : decode cX7_exceptions 38 = .ok (.getfield 66, 3) := by decide +kernel
theorem dX7_exceptions_41 : decode cX7_exceptions 41 = .ok (.iload_n 1, 1) := by decide +kernel
theorem dX7_exceptions_42 : decode cX7_exceptions 42 = .ok (.iaload, 1) := by decide +kernel
theorem dX7_exceptions_43 : decode cX7_exceptions 43 = .ok (.istore_n 3, 1) := by decide +kernel
theorem dX7_exceptions_44 : decode cX7_exceptions 44 = .ok (.aload_n 0, 1) := by decide +kernel
theorem dX7_exceptions_45 : decode cX7_exceptions 45 = .ok (.getfield 66, 3) := by decide +kernel
theorem dX7_exceptions_48 : decode cX7_exceptions 48 = .ok (.iload_n 1, 1) := by decide +kernel
theorem dX7_exceptions_49 : decode cX7_exceptions 49 = .ok (.iload_n 2, 1) := by decide +kernel
theorem dX7_exceptions_50 : decode cX7_exceptions 50 = .ok (.iastore, 1) := by decide +kernel
theorem dX7_exceptions_51 : decode cX7_exceptions 51 = .ok (.iload_n 3, 1) := by decide +kernel
theorem dX7_exceptions_52 : decode cX7_exceptions 52 = .ok (.ireturn, 1) := by decide +kernel
theorem dX7_left_0 : decode cX7_left 0 = .ok (.aload_n 0, 1) := by decide +kernel
theorem dX7_left_1 : decode cX7_left 1 = .ok (.iload_n 1, 1) := by decide +kernel
theorem dX7_left_2 : decode cX7_left 2 = .ok (.iconst 1, 1) := by decide +kernel
theorem dX7_left_3 : decode cX7_left 3 = .ok (.iconst 3, 1) := by decide +kernel
theorem dX7_left_4 : decode cX7_left 4 = .ok (.invokestatic 72, 3) := by decide +kernel
theorem dX7_left_7 : decode cX7_left 7 = .ok (.ifCond .eq 7, 3) := by decide +kernel
theorem dX7_left_10 : decode cX7_left 10 = .ok (.iconst 0, 1) := by decide +kernel
theorem dX7_left_11 : decode cX7_left 11 = .ok (.goto 4, 3) := by decide +kernel
theorem dX7_left_14 : decode cX7_left 14 = .ok (.iconst 1, 1) := by decide +kernel
theorem dX7_left_15 : decode cX7_left 15 = .ok (.putfield 69, 3) := by decide +kernel
theorem dX7_left_18 : decode cX7_left 18 = .ok (.aload_n 0, 1) := by decide +kernel
theorem dX7_left_19 : decode cX7_left 19 = .ok (.getfield 69, 3) := by decide +kernel
theorem dX7_left_22 : decode cX7_left 22 = .ok (.ifCond .le 7, 3) := by decide +kernel
theorem dX7_left_25 : decode cX7_left 25 = .ok (.iconst 0, 1) := by decide +kernel
theorem dX7_left_26 : decode cX7_left 26 = .ok (.goto 9, 3) := by decide +kernel
theorem dX7_left_29 : decode cX7_left 29 = .ok (.aload_n 0, 1) := by decide +kernel
theorem dX7_left_30 : decode cX7_left 30 = .ok (.getfield 66, 3) := by decide +kernel
theorem dX7_left_33 : decode cX7_left 33 = .ok (.iload_n 1, 1) := by decide +kernel
theorem dX7_left_34 : decode cX7_left 34 = .ok (.iaload, 1) := by decide +kernel
theorem dX7_left_35 : decode cX7_left 35 = .ok (.ireturn, 1) := by decide +kernel
theorem dX7_excuse_0 : decode cX7_excuse 0 = .ok (.aload_n 0, 1) := by decide +kernel
theorem dX7_excuse_1 : decode cX7_excuse 1 = .ok (.aload_n 0, 1) := by decide +kernel
theorem dX7_excuse_2 : decode cX7_excuse 2 = .ok (.iload_n 1, 1) := by decide +kernel
theorem dX7_excuse_3 : decode cX7_excuse 3 = .ok (.invokevirtual 122, 3) := by decide +kernel
theorem dX7_excuse_6 : decode cX7_excuse 6 = .ok (.ifCond .ne 7, 3) := by decide +kernel
theorem dX7_excuse_9 : decode cX7_excuse 9 = .ok (.iconst 1, 1) := by decide +kernel
theorem dX7_excuse_10 : decode cX7_excuse 10 = .ok (.goto 16, 3) := by decide +kernel
theorem dX7_excuse_13 : decode cX7_excuse 13 = .ok (.aload_n 0, 1) := by decide +kernel
theorem dX7_excuse_14 : decode cX7_excuse 14 = .ok (.iload_n 2, 1) := by decide +kernel
theorem dX7_excuse_15 : decode cX7_excuse 15 = .ok (.invokevirtual 93, 3) := by decide +kernel
theorem dX7_excuse_18 : decode cX7_excuse 18 = .ok (.ifCond .ne 7, 3) := by decide +kernel
theorem dX7_excuse_21 : decode cX7_excuse 21 = .ok (.iconst 2, 1) := by decide +kernel
theorem dX7_excuse_22 : decode cX7_excuse 22 = .ok (.goto 4, 3) := by decide +kernel
theorem dX7_excuse_25 : decode cX7_excuse 25 = .ok (.iconst 0, 1) := by decide +kernel
theorem dX7_excuse_26 : decode cX7_excuse 26 = .ok (.putfield 69, 3) := by decide +kernel
theorem dX7_excuse_29 : decode cX7_excuse 29 = .ok (.aload_n 0, 1) := by decide +kernel
theorem dX7_excuse_30 : decode cX7_excuse 30 = .ok (.getfield 69, 3) := by decide +kernel
theorem dX7_excuse_33 : decode cX7_excuse 33 = .ok (.ifCond .le 5, 3) := by decide +kernel
theorem dX7_excuse_36 : decode cX7_excuse 36 = .ok (.iconst 0, 1) := by decide +kernel
theorem dX7_excuse_37 : decode cX7_excuse 37 = .ok (.ireturn, 1) := by decide +kernel
theorem dX7_excuse_38 : decode cX7_excuse 38 = .ok (.aload_n 0, 1) := by decide +kernel
theorem dX7_excuse_39 : decode cX7_excuse 39 = .ok (.getfield 42, 3) := by decide +kernel
theorem dX7_excuse_42 : decode cX7_excuse 42 = .ok (.iload_n 2, 1) := by decide +kernel
theorem dX7_excuse_43 : decode cX7_excuse 43 = .ok (.iaload, 1) := by decide +kernel
theorem dX7_excuse_44 : decode cX7_excuse 44 = .ok (.istore_n 3, 1) := by decide +kernel
theorem dX7_excuse_45 : decode cX7_excuse 45 = .ok (.iload_n 3, 1) := by decide +kernel
theorem dX7_excuse_46 : decode cX7_excuse 46 = .ok (.iconst 4, 1) := by decide +kernel
theorem dX7_excuse_47 : decode cX7_excuse 47 = .ok (.if_icmp .ge 18, 3) := by decide +kernel
theorem dX7_excuse_50 : decode cX7_excuse 50 = .ok (.aload_n 0, 1) := by decide +kernel
theorem dX7_excuse_51 : decode cX7_excuse 51 = .ok (.getfield 66, 3) := by decide +kernel
theorem dX7_excuse_54 : decode cX7_excuse 54 = .ok (.iload_n 3, 1) := by decide +kernel
theorem dX7_excuse_55 : decode cX7_excuse 55 = .ok (.iaload, 1) := by decide +kernel
theorem dX7_excuse_56 : decode cX7_excuse 56 = .ok (.ifCond .ne 9, 3) := by decide +kernel
theorem dX7_excuse_59 : decode cX7_excuse 59 = .ok (.iinc 3 1, 3) := by decide +kernel
theorem dX7_excuse_62 : decode cX7_excuse 62 = .ok (.goto (-17), 3) := by decide +kernel
theorem dX7_excuse_65 : decode cX7_excuse 65 = .ok (.aload_n 0, 1) := by decide +kernel
theorem dX7_excuse_66 : decode cX7_excuse 66 = .ok (.iload_n 2, 1) := by decide +kernel
theorem dX7_excuse_67 : decode cX7_excuse 67 = .ok (.iload_n 1, 1) := by decide +kernel
theorem dX7_excuse_68 : decode cX7_excuse 68 = .ok (.invokevirtual 116, 3) := by decide +kernel
theorem dX7_excuse_71 : decode cX7_excuse 71 = .ok (.ifCond .eq 25, 3) := by decide +kernel
theorem dX7_excuse_74 : decode cX7_excuse 74 = .ok (.aload_n 0, 1) := by decide +kernel
theorem dX7_excuse_75 : decode cX7_excuse 75 = .ok (.getfield 60, 3) := by decide +kernel
theorem dX7_excuse_78 : decode cX7_excuse 78 = .ok (.iload_n 1, 1) := by decide +kernel
theorem dX7_excuse_79 : decode cX7_excuse 79 = .ok (.iaload, 1) := by decide +kernel
theorem dX7_excuse_80 : decode cX7_excuse 80 = .ok (.iload_n 2, 1) := by decide +kernel
theorem dX7_excuse_81 : decode cX7_excuse 81 = .ok (.ishr, 1) := by decide +kernel
theorem dX7_excuse_82 : decode cX7_excuse 82 = .ok (.iconst 1, 1) := by decide +kernel
theorem dX7_excuse_83 : decode cX7_excuse 83 = .ok (.iand, 1) := by decide +kernel
theorem dX7_excuse_84 : decode cX7_excuse 84 = .ok (.ifCond .ne 12, 3) := by decide +kernel
theorem dX7_excuse_87 : decode cX7_excuse 87 = .ok (.iload_n 3, 1) := by decide +kernel
theorem dX7_excuse_88 : decode cX7_excuse 88 = .ok (.iconst 4, 1) := by decide +kernel
theorem dX7_excuse_89 : decode cX7_excuse 89 = .ok (.if_icmp .ge 7, 3) := by decide +kernel
theorem dX7_excuse_92 : decode cX7_excuse 92 = .ok (.iconst 1, 1) := by decide +kernel
theorem dX7_excuse_93 : decode cX7_excuse 93 = .ok (.goto 4, 3) := by decide +kernel
theorem dX7_excuse_96 : decode cX7_excuse 96 = .ok (.iconst 0, 1) := by decide +kernel
theorem dX7_excuse_97 : decode cX7_excuse 97 = .ok (.istore 4, 2) := by decide +kernel
theorem dX7_excuse_99 : decode cX7_excuse 99 = .ok (.aload_n 0, 1) := by decide +kernel
theorem dX7_excuse_100 : decode cX7_excuse 100 = .ok (.iload 4, 2) := by decide +kernel
theorem dX7_excuse_102 : decode cX7_excuse 102 = .ok (.ifCond .eq 7, 3) := by decide +kernel
theorem dX7_excuse_105 : decode cX7_excuse 105 = .ok (.iconst 0, 1) := by decide +kernel
theorem dX7_excuse_106 : decode cX7_excuse 106 = .ok (.goto 4, 3) := by decide +kernel
theorem dX7_excuse_109 : decode cX7_excuse 109 = .ok (.iconst 3, 1) := by decide +kernel
theorem dX7_excuse_110 : decode cX7_excuse 110 = .ok (.putfield 69, 3) := by decide +kernel
theorem dX7_excuse_113 : decode cX7_excuse 113 = .ok (.aload_n 0, 1) := by decide +kernel
theorem dX7_excuse_114 : decode cX7_excuse 114 = .ok (.getfield 69, 3) := by decide +kernel
theorem dX7_excuse_117 : decode cX7_excuse 117 = .ok (.ifCond .le 5, 3) := by decide +kernel
theorem dX7_excuse_120 : decode cX7_excuse 120 = .ok (.iconst 0, 1) := by decide +kernel
theorem dX7_excuse_121 : decode cX7_excuse 121 = .ok (.ireturn, 1) := by decide +kernel
theorem dX7_excuse_122 : decode cX7_excuse 122 = .ok (.aload_n 0, 1) := by decide +kernel
theorem dX7_excuse_123 : decode cX7_excuse 123 = .ok (.getfield 60, 3) := by decide +kernel
theorem dX7_excuse_126 : decode cX7_excuse 126 = .ok (.iload_n 1, 1) := by decide +kernel
theorem dX7_excuse_127 : decode cX7_excuse 127 = .ok (.dup2, 1) := by decide +kernel
theorem dX7_excuse_128 : decode cX7_excuse 128 = .ok (.iaload, 1) := by decide +kernel
theorem dX7_excuse_129 : decode cX7_excuse 129 = .ok (.iconst 1, 1) := by decide +kernel
theorem dX7_excuse_130 : decode cX7_excuse 130 = .ok (.iload_n 2, 1) := by decide +kernel
theorem dX7_excuse_131 : decode cX7_excuse 131 = .ok (.ishl, 1) := by decide +kernel
theorem dX7_excuse_132 : decode cX7_excuse 132 = .ok (.ior, 1) := by decide +kernel
theorem dX7_excuse_133 : decode cX7_excuse 133 = .ok (.iastore, 1) := by decide +kernel
theorem dX7_excuse_134 : decode cX7_excuse 134 = .ok (.aload_n 0, 1) := by decide +kernel
theorem dX7_excuse_135 : decode cX7_excuse 135 = .ok (.getfield 66, 3) := by decide +kernel
theorem dX7_excuse_138 : decode cX7_excuse 138 = .ok (.iload_n 3, 1) := by decide +kernel
theorem dX7_excuse_139 : decode cX7_excuse 139 = .ok (.dup2, 1) := by decide +kernel
theorem dX7_excuse_140 : decode cX7_excuse 140 = .ok (.iaload, 1) := by decide +kernel
theorem dX7_excuse_141 : decode cX7_excuse 141 = .ok (.iconst 1, 1) := by decide +kernel
theorem dX7_excuse_142 : decode cX7_excuse 142 = .ok (.isub, 1) := by decide +kernel
theorem dX7_excuse_143 : decode cX7_excuse 143 = .ok (.iastore, 1) := by decide +kernel
theorem dX7_excuse_144 : decode cX7_excuse 144 = .ok (.iload_n 3, 1) := by decide +kernel
theorem dX7_excuse_145 : decode cX7_excuse 145 = .ok (.ireturn, 1) := by decide +kernel
theorem dX7_badHours_0 : decode cX7_badHours 0 = .ok (.aload_n 0, 1) := by decide +kernel
theorem dX7_badHours_1 : decode cX7_badHours 1 = .ok (.aload_n 0, 1) := by decide +kernel
theorem dX7_badHours_2 : decode cX7_badHours 2 = .ok (.iload_n 1, 1) := by decide +kernel
theorem dX7_badHours_3 : decode cX7_badHours 3 = .ok (.invokevirtual 122, 3) := by decide +kernel
theorem dX7_badHours_6 : decode cX7_badHours 6 = .ok (.ifCond .eq 7, 3) := by decide +kernel
theorem dX7_badHours_9 : decode cX7_badHours 9 = .ok (.iconst 0, 1) := by decide +kernel
theorem dX7_badHours_10 : decode cX7_badHours 10 = .ok (.goto 4, 3) := by decide +kernel
theorem dX7_badHours_13 : decode cX7_badHours 13 = .ok (.iconst 1, 1) := by decide +kernel
theorem dX7_badHours_14 : decode cX7_badHours 14 = .ok (.putfield 69, 3) := by decide +kernel
theorem dX7_badHours_17 : decode cX7_badHours 17 = .ok (.aload_n 0, 1) := by decide +kernel
theorem dX7_badHours_18 : decode cX7_badHours 18 = .ok (.getfield 69, 3) := by decide +kernel
theorem dX7_badHours_21 : decode cX7_badHours 21 = .ok (.ifCond .le 7, 3) := by decide +kernel
theorem dX7_badHours_24 : decode cX7_badHours 24 = .ok (.iconst 0, 1) := by decide +kernel
theorem dX7_badHours_25 : decode cX7_badHours 25 = .ok (.goto 8, 3) := by decide +kernel
theorem dX7_badHours_28 : decode cX7_badHours 28 = .ok (.aload_n 0, 1) := by decide +kernel
theorem dX7_badHours_29 : decode cX7_badHours 29 = .ok (.iload_n 1, 1) := by decide +kernel
theorem dX7_badHours_30 : decode cX7_badHours 30 = .ok (.invokevirtual 125, 3) := by decide +kernel
theorem dX7_badHours_33 : decode cX7_badHours 33 = .ok (.ireturn, 1) := by decide +kernel
theorem dX7_badHoursOneByOne_0 : decode cX7_badHoursOneByOne 0 = .ok (.aload_n 0, 1) := by decide +kernel
theorem dX7_badHoursOneByOne_1 : decode cX7_badHoursOneByOne 1 = .ok (.iload_n 1, 1) := by decide +kernel
theorem dX7_badHoursOneByOne_2 : decode cX7_badHoursOneByOne 2 = .ok (.invokevirtual 129, 3) := by decide +kernel
theorem dX7_badHoursOneByOne_5 : decode cX7_badHoursOneByOne 5 = .ok (.ireturn, 1) := by decide +kernel
theorem dX7_firstBad_0 : decode cX7_firstBad 0 = .ok (.aload_n 0, 1) := by decide +kernel
theorem dX7_firstBad_1 : decode cX7_firstBad 1 = .ok (.aload_n 0, 1) := by decide +kernel
theorem dX7_firstBad_2 : decode cX7_firstBad 2 = .ok (.iload_n 1, 1) := by decide +kernel
theorem dX7_firstBad_3 : decode cX7_firstBad 3 = .ok (.invokevirtual 122, 3) := by decide +kernel
theorem dX7_firstBad_6 : decode cX7_firstBad 6 = .ok (.ifCond .eq 7, 3) := by decide +kernel
theorem dX7_firstBad_9 : decode cX7_firstBad 9 = .ok (.iconst 0, 1) := by decide +kernel
theorem dX7_firstBad_10 : decode cX7_firstBad 10 = .ok (.goto 4, 3) := by decide +kernel
theorem dX7_firstBad_13 : decode cX7_firstBad 13 = .ok (.iconst 1, 1) := by decide +kernel
theorem dX7_firstBad_14 : decode cX7_firstBad 14 = .ok (.putfield 69, 3) := by decide +kernel
theorem dX7_firstBad_17 : decode cX7_firstBad 17 = .ok (.iconst (-1), 1) := by decide +kernel
theorem dX7_firstBad_18 : decode cX7_firstBad 18 = .ok (.istore_n 2, 1) := by decide +kernel
theorem dX7_firstBad_19 : decode cX7_firstBad 19 = .ok (.iconst 0, 1) := by decide +kernel
theorem dX7_firstBad_20 : decode cX7_firstBad 20 = .ok (.istore_n 3, 1) := by decide +kernel
theorem dX7_firstBad_21 : decode cX7_firstBad 21 = .ok (.aload_n 0, 1) := by decide +kernel
theorem dX7_firstBad_22 : decode cX7_firstBad 22 = .ok (.getfield 69, 3) := by decide +kernel
theorem dX7_firstBad_25 : decode cX7_firstBad 25 = .ok (.ifCond .ne 51, 3) := by decide +kernel
theorem dX7_firstBad_28 : decode cX7_firstBad 28 = .ok (.iload_n 3, 1) := by decide +kernel
theorem dX7_firstBad_29 : decode cX7_firstBad 29 = .ok (.aload_n 0, 1) := by decide +kernel
theorem dX7_firstBad_30 : decode cX7_firstBad 30 = .ok (.getfield 51, 3) := by decide +kernel
theorem dX7_firstBad_33 : decode cX7_firstBad 33 = .ok (.iload_n 1, 1) := by decide +kernel
theorem dX7_firstBad_34 : decode cX7_firstBad 34 = .ok (.iaload, 1) := by decide +kernel
theorem dX7_firstBad_35 : decode cX7_firstBad 35 = .ok (.if_icmp .ge 41, 3) := by decide +kernel
theorem dX7_firstBad_38 : decode cX7_firstBad 38 = .ok (.aload_n 0, 1) := by decide +kernel
theorem dX7_firstBad_39 : decode cX7_firstBad 39 = .ok (.getfield 48, 3) := by decide +kernel
theorem dX7_firstBad_42 : decode cX7_firstBad 42 = .ok (.iload_n 1, 1) := by decide +kernel
theorem dX7_firstBad_43 : decode cX7_firstBad 43 = .ok (.iaload, 1) := by decide +kernel
theorem dX7_firstBad_44 : decode cX7_firstBad 44 = .ok (.iload_n 3, 1) := by decide +kernel
theorem dX7_firstBad_45 : decode cX7_firstBad 45 = .ok (.iadd, 1) := by decide +kernel
theorem dX7_firstBad_46 : decode cX7_firstBad 46 = .ok (.istore 4, 2) := by decide +kernel
theorem dX7_firstBad_48 : decode cX7_firstBad 48 = .ok (.iload_n 2, 1) := by decide +kernel
theorem dX7_firstBad_49 : decode cX7_firstBad 49 = .ok (.iconst (-1), 1) := by decide +kernel
theorem dX7_firstBad_50 : decode cX7_firstBad 50 = .ok (.if_icmp .ne 18, 3) := by decide +kernel
theorem dX7_firstBad_53 : decode cX7_firstBad 53 = .ok (.aload_n 0, 1) := by decide +kernel
theorem dX7_firstBad_54 : decode cX7_firstBad 54 = .ok (.iload_n 1, 1) := by decide +kernel
theorem dX7_firstBad_55 : decode cX7_firstBad 55 = .ok (.iload 4, 2) := by decide +kernel
theorem dX7_firstBad_57 : decode cX7_firstBad 57 = .ok (.invokevirtual 119, 3) := by decide +kernel
theorem dX7_firstBad_60 : decode cX7_firstBad 60 = .ok (.ifCond .eq 8, 3) := by decide +kernel
theorem dX7_firstBad_63 : decode cX7_firstBad 63 = .ok (.iload 4, 2) := by decide +kernel
theorem dX7_firstBad_65 : decode cX7_firstBad 65 = .ok (.goto 4, 3) := by decide +kernel
theorem dX7_firstBad_68 : decode cX7_firstBad 68 = .ok (.iload_n 2, 1) := by decide +kernel
theorem dX7_firstBad_69 : decode cX7_firstBad 69 = .ok (.istore_n 2, 1) := by decide +kernel
theorem dX7_firstBad_70 : decode cX7_firstBad 70 = .ok (.iinc 3 1, 3) := by decide +kernel
theorem dX7_firstBad_73 : decode cX7_firstBad 73 = .ok (.goto (-52), 3) := by decide +kernel
theorem dX7_firstBad_76 : decode cX7_firstBad 76 = .ok (.aload_n 0, 1) := by decide +kernel
theorem dX7_firstBad_77 : decode cX7_firstBad 77 = .ok (.getfield 69, 3) := by decide +kernel
theorem dX7_firstBad_80 : decode cX7_firstBad 80 = .ok (.ifCond .le 7, 3) := by decide +kernel
theorem dX7_firstBad_83 : decode cX7_firstBad 83 = .ok (.iconst 0, 1) := by decide +kernel
theorem dX7_firstBad_84 : decode cX7_firstBad 84 = .ok (.goto 4, 3) := by decide +kernel
theorem dX7_firstBad_87 : decode cX7_firstBad 87 = .ok (.iload_n 2, 1) := by decide +kernel
theorem dX7_firstBad_88 : decode cX7_firstBad 88 = .ok (.ireturn, 1) := by decide +kernel
theorem dX7_reasons_0 : decode cX7_reasons 0 = .ok (.aload_n 0, 1) := by decide +kernel
theorem dX7_reasons_1 : decode cX7_reasons 1 = .ok (.aload_n 0, 1) := by decide +kernel
theorem dX7_reasons_2 : decode cX7_reasons 2 = .ok (.iload_n 1, 1) := by decide +kernel
theorem dX7_reasons_3 : decode cX7_reasons 3 = .ok (.invokevirtual 122, 3) := by decide +kernel
theorem dX7_reasons_6 : decode cX7_reasons 6 = .ok (.ifCond .eq 7, 3) := by decide +kernel
theorem dX7_reasons_9 : decode cX7_reasons 9 = .ok (.iconst 0, 1) := by decide +kernel
theorem dX7_reasons_10 : decode cX7_reasons 10 = .ok (.goto 4, 3) := by decide +kernel
theorem dX7_reasons_13 : decode cX7_reasons 13 = .ok (.iconst 1, 1) := by decide +kernel
theorem dX7_reasons_14 : decode cX7_reasons 14 = .ok (.putfield 69, 3) := by decide +kernel
theorem dX7_reasons_17 : decode cX7_reasons 17 = .ok (.iconst 0, 1) := by decide +kernel
theorem dX7_reasons_18 : decode cX7_reasons 18 = .ok (.istore_n 2, 1) := by decide +kernel
theorem dX7_reasons_19 : decode cX7_reasons 19 = .ok (.iconst 0, 1) := by decide +kernel
theorem dX7_reasons_20 : decode cX7_reasons 20 = .ok (.istore_n 3, 1) := by decide +kernel
theorem dX7_reasons_21 : decode cX7_reasons 21 = .ok (.aload_n 0, 1) := by decide +kernel
theorem dX7_reasons_22 : decode cX7_reasons 22 = .ok (.getfield 69, 3) := by decide +kernel
theorem dX7_reasons_25 : decode cX7_reasons 25 = .ok (.ifCond .ne 35, 3) := by decide +kernel
theorem dX7_reasons_28 : decode cX7_reasons 28 = .ok (.iload_n 3, 1) := by decide +kernel
theorem dX7_reasons_29 : decode cX7_reasons 29 = .ok (.aload_n 0, 1) := by decide +kernel
theorem dX7_reasons_30 : decode cX7_reasons 30 = .ok (.getfield 51, 3) := by decide +kernel
theorem dX7_reasons_33 : decode cX7_reasons 33 = .ok (.iload_n 1, 1) := by decide +kernel
theorem dX7_reasons_34 : decode cX7_reasons 34 = .ok (.iaload, 1) := by decide +kernel
theorem dX7_reasons_35 : decode cX7_reasons 35 = .ok (.if_icmp .ge 25, 3) := by decide +kernel
theorem dX7_reasons_38 : decode cX7_reasons 38 = .ok (.iload_n 2, 1) := by decide +kernel
theorem dX7_reasons_39 : decode cX7_reasons 39 = .ok (.aload_n 0, 1) := by decide +kernel
theorem dX7_reasons_40 : decode cX7_reasons 40 = .ok (.iload_n 1, 1) := by decide +kernel
theorem dX7_reasons_41 : decode cX7_reasons 41 = .ok (.aload_n 0, 1) := by decide +kernel
theorem dX7_reasons_42 : decode cX7_reasons 42 = .ok (.getfield 48, 3) := by decide +kernel
theorem dX7_reasons_45 : decode cX7_reasons 45 = .ok (.iload_n 1, 1) := by decide +kernel
theorem dX7_reasons_46 : decode cX7_reasons 46 = .ok (.iaload, 1) := by decide +kernel
theorem dX7_reasons_47 : decode cX7_reasons 47 = .ok (.iload_n 3, 1) := by decide +kernel
theorem dX7_reasons_48 : decode cX7_reasons 48 = .ok (.iadd, 1) := by decide +kernel
theorem dX7_reasons_49 : decode cX7_reasons 49 = .ok (.invokevirtual 119, 3) := by decide +kernel
theorem dX7_reasons_52 : decode cX7_reasons 52 = .ok (.ior, 1) := by decide +kernel
theorem dX7_reasons_53 : decode cX7_reasons 53 = .ok (.istore_n 2, 1) := by decide +kernel
theorem dX7_reasons_54 : decode cX7_reasons 54 = .ok (.iinc 3 1, 3) := by decide +kernel
theorem dX7_reasons_57 : decode cX7_reasons 57 = .ok (.goto (-36), 3) := by decide +kernel
theorem dX7_reasons_60 : decode cX7_reasons 60 = .ok (.iload_n 2, 1) := by decide +kernel
theorem dX7_reasons_61 : decode cX7_reasons 61 = .ok (.ireturn, 1) := by decide +kernel
theorem dJ9_floorDiv_7cf53_0 : decode cJ9_floorDiv_7cf53 0 = .ok (.iload_n 0, 1) := by decide +kernel
theorem dJ9_floorDiv_7cf53_1 : decode cJ9_floorDiv_7cf53 1 = .ok (.iload_n 1, 1) := by decide +kernel
theorem dJ9_floorDiv_7cf53_2 : decode cJ9_floorDiv_7cf53 2 = .ok (.idiv, 1) := by decide +kernel
theorem dJ9_floorDiv_7cf53_3 : decode cJ9_floorDiv_7cf53 3 = .ok (.istore_n 2, 1) := by decide +kernel
theorem dJ9_floorDiv_7cf53_4 : decode cJ9_floorDiv_7cf53 4 = .ok (.iload_n 0, 1) := by decide +kernel
theorem dJ9_floorDiv_7cf53_5 : decode cJ9_floorDiv_7cf53 5 = .ok (.iload_n 1, 1) := by decide +kernel
theorem dJ9_floorDiv_7cf53_6 : decode cJ9_floorDiv_7cf53 6 = .ok (.ixor, 1) := by decide +kernel
theorem dJ9_floorDiv_7cf53_7 : decode cJ9_floorDiv_7cf53 7 = .ok (.ifCond .ge 14, 3) := by decide +kernel
theorem dJ9_floorDiv_7cf53_10 : decode cJ9_floorDiv_7cf53 10 = .ok (.iload_n 2, 1) := by decide +kernel
theorem dJ9_floorDiv_7cf53_11 : decode cJ9_floorDiv_7cf53 11 = .ok (.iload_n 1, 1) := by decide +kernel
theorem dJ9_floorDiv_7cf53_12 : decode cJ9_floorDiv_7cf53 12 = .ok (.imul, 1) := by decide +kernel
theorem dJ9_floorDiv_7cf53_13 : decode cJ9_floorDiv_7cf53 13 = .ok (.iload_n 0, 1) := by decide +kernel
theorem dJ9_floorDiv_7cf53_14 : decode cJ9_floorDiv_7cf53 14 = .ok (.if_icmp .eq 7, 3) := by decide +kernel
theorem dJ9_floorDiv_7cf53_17 : decode cJ9_floorDiv_7cf53 17 = .ok (.iload_n 2, 1) := by decide +kernel
theorem dJ9_floorDiv_7cf53_18 : decode cJ9_floorDiv_7cf53 18 = .ok (.iconst 1, 1) := by decide +kernel
theorem dJ9_floorDiv_7cf53_19 : decode cJ9_floorDiv_7cf53 19 = .ok (.isub, 1) := by decide +kernel
theorem dJ9_floorDiv_7cf53_20 : decode cJ9_floorDiv_7cf53 20 = .ok (.ireturn, 1) := by decide +kernel
theorem dJ9_floorDiv_7cf53_21 : decode cJ9_floorDiv_7cf53 21 = .ok (.iload_n 2, 1) := by decide +kernel
theorem dJ9_floorDiv_7cf53_22 : decode cJ9_floorDiv_7cf53 22 = .ok (.ireturn, 1) := by decide +kernel
theorem dJ9_floorMod_7cf53_0 : decode cJ9_floorMod_7cf53 0 = .ok (.iload_n 0, 1) := by decide +kernel
theorem dJ9_floorMod_7cf53_1 : decode cJ9_floorMod_7cf53 1 = .ok (.iload_n 1, 1) := by decide +kernel
theorem dJ9_floorMod_7cf53_2 : decode cJ9_floorMod_7cf53 2 = .ok (.irem, 1) := by decide +kernel
theorem dJ9_floorMod_7cf53_3 : decode cJ9_floorMod_7cf53 3 = .ok (.istore_n 2, 1) := by decide +kernel
theorem dJ9_floorMod_7cf53_4 : decode cJ9_floorMod_7cf53 4 = .ok (.iload_n 0, 1) := by decide +kernel
theorem dJ9_floorMod_7cf53_5 : decode cJ9_floorMod_7cf53 5 = .ok (.iload_n 1, 1) := by decide +kernel
theorem dJ9_floorMod_7cf53_6 : decode cJ9_floorMod_7cf53 6 = .ok (.ixor, 1) := by decide +kernel
theorem dJ9_floorMod_7cf53_7 : decode cJ9_floorMod_7cf53 7 = .ok (.ifCond .ge 11, 3) := by decide +kernel
theorem dJ9_floorMod_7cf53_10 : decode cJ9_floorMod_7cf53 10 = .ok (.iload_n 2, 1) := by decide +kernel
theorem dJ9_floorMod_7cf53_11 : decode cJ9_floorMod_7cf53 11 = .ok (.ifCond .eq 7, 3) := by decide +kernel
theorem dJ9_floorMod_7cf53_14 : decode cJ9_floorMod_7cf53 14 = .ok (.iload_n 2, 1) := by decide +kernel
theorem dJ9_floorMod_7cf53_15 : decode cJ9_floorMod_7cf53 15 = .ok (.iload_n 1, 1) := by decide +kernel
theorem dJ9_floorMod_7cf53_16 : decode cJ9_floorMod_7cf53 16 = .ok (.iadd, 1) := by decide +kernel
theorem dJ9_floorMod_7cf53_17 : decode cJ9_floorMod_7cf53 17 = .ok (.ireturn, 1) := by decide +kernel
theorem dJ9_floorMod_7cf53_18 : decode cJ9_floorMod_7cf53 18 = .ok (.iload_n 2, 1) := by decide +kernel
theorem dJ9_floorMod_7cf53_19 : decode cJ9_floorMod_7cf53 19 = .ok (.ireturn, 1) := by decide +kernel
theorem dL_scope_0 : decode cL_scope 0 = .ok (.aload_n 2, 1) := by decide +kernel
theorem dL_scope_1 : decode cL_scope 1 = .ok (.iconst 0, 1) := by decide +kernel
theorem dL_scope_2 : decode cL_scope 2 = .ok (.aload_n 0, 1) := by decide +kernel
theorem dL_scope_3 : decode cL_scope 3 = .ok (.iload_n 1, 1) := by decide +kernel
theorem dL_scope_4 : decode cL_scope 4 = .ok (.invokevirtual 7, 3) := by decide +kernel
theorem dL_scope_7 : decode cL_scope 7 = .ok (.i2l, 1) := by decide +kernel
theorem dL_scope_8 : decode cL_scope 8 = .ok (.lastore, 1) := by decide +kernel
theorem dL_scope_9 : decode cL_scope 9 = .ok (.goto 9, 3) := by decide +kernel
theorem dL_scope_12 : decode cL_scope 12 = .ok (.astore_n 3, 1) := by decide +kernel
theorem dL_scope_13 : decode cL_scope 13 = .ok (.iconst 1, 1) := by decide +kernel
theorem dL_scope_14 : decode cL_scope 14 = .ok (.ireturn, 1) := by decide +kernel
theorem dL_scope_15 : decode cL_scope 15 = .ok (.astore_n 3, 1) := by decide +kernel
theorem dL_scope_16 : decode cL_scope 16 = .ok (.iconst 2, 1) := by decide +kernel
theorem dL_scope_17 : decode cL_scope 17 = .ok (.ireturn, 1) := by decide +kernel
theorem dL_scope_18 : decode cL_scope 18 = .ok (.iconst 0, 1) := by decide +kernel
theorem dL_scope_19 : decode cL_scope 19 = .ok (.ireturn, 1) := by decide +kernel
theorem dL_offset_0 : decode cL_offset 0 = .ok (.aload_n 3, 1) := by decide +kernel
theorem dL_offset_1 : decode cL_offset 1 = .ok (.iconst 0, 1) := by decide +kernel
theorem dL_offset_2 : decode cL_offset 2 = .ok (.aload_n 0, 1) := by decide +kernel
theorem dL_offset_3 : decode cL_offset 3 = .ok (.iload_n 1, 1) := by decide +kernel
theorem dL_offset_4 : decode cL_offset 4 = .ok (.iload_n 2, 1) := by decide +kernel
theorem dL_offset_5 : decode cL_offset 5 = .ok (.invokevirtual 17, 3) := by decide +kernel
theorem dL_offset_8 : decode cL_offset 8 = .ok (.i2l, 1) := by decide +kernel
theorem dL_offset_9 : decode cL_offset 9 = .ok (.lastore, 1) := by decide +kernel
theorem dL_offset_10 : decode cL_offset 10 = .ok (.goto 11, 3) := by decide +kernel
theorem dL_offset_13 : decode cL_offset 13 = .ok (.astore 4, 2) := by decide +kernel
theorem dL_offset_15 : decode cL_offset 15 = .ok (.iconst 1, 1) := by decide +kernel
theorem dL_offset_16 : decode cL_offset 16 = .ok (.ireturn, 1) := by decide +kernel
theorem dL_offset_17 : decode cL_offset 17 = .ok (.astore 4, 2) := by decide +kernel
theorem dL_offset_19 : decode cL_offset 19 = .ok (.iconst 2, 1) := by decide +kernel
theorem dL_offset_20 : decode cL_offset 20 = .ok (.ireturn, 1) := by decide +kernel
theorem dL_offset_21 : decode cL_offset 21 = .ok (.iconst 0, 1) := by decide +kernel
theorem dL_offset_22 : decode cL_offset 22 = .ok (.ireturn, 1) := by decide +kernel
theorem dL_feast_0 : decode cL_feast 0 = .ok (.aload_n 3, 1) := by decide +kernel
theorem dL_feast_1 : decode cL_feast 1 = .ok (.iconst 0, 1) := by decide +kernel
theorem dL_feast_2 : decode cL_feast 2 = .ok (.aload_n 0, 1) := by decide +kernel
theorem dL_feast_3 : decode cL_feast 3 = .ok (.iload_n 1, 1) := by decide +kernel
theorem dL_feast_4 : decode cL_feast 4 = .ok (.iload_n 2, 1) := by decide +kernel
theorem dL_feast_5 : decode cL_feast 5 = .ok (.invokevirtual 23, 3) := by decide +kernel
theorem dL_feast_8 : decode cL_feast 8 = .ok (.ifCond .eq 7, 3) := by decide +kernel
theorem dL_feast_11 : decode cL_feast 11 = .ok (.lconst 1, 1) := by decide +kernel
theorem dL_feast_12 : decode cL_feast 12 = .ok (.goto 4, 3) := by decide +kernel
theorem dL_feast_15 : decode cL_feast 15 = .ok (.lconst 0, 1) := by decide +kernel
theorem dL_feast_16 : decode cL_feast 16 = .ok (.lastore, 1) := by decide +kernel
theorem dL_feast_17 : decode cL_feast 17 = .ok (.goto 11, 3) := by decide +kernel
theorem dL_feast_20 : decode cL_feast 20 = .ok (.astore 4, 2) := by decide +kernel
theorem dL_feast_22 : decode cL_feast 22 = .ok (.iconst 1, 1) := by decide +kernel
theorem dL_feast_23 : decode cL_feast 23 = .ok (.ireturn, 1) := by decide +kernel
theorem dL_feast_24 : decode cL_feast 24 = .ok (.astore 4, 2) := by decide +kernel
theorem dL_feast_26 : decode cL_feast 26 = .ok (.iconst 2, 1) := by decide +kernel
theorem dL_feast_27 : decode cL_feast 27 = .ok (.ireturn, 1) := by decide +kernel
theorem dL_feast_28 : decode cL_feast 28 = .ok (.iconst 0, 1) := by decide +kernel
theorem dL_feast_29 : decode cL_feast 29 = .ok (.ireturn, 1) := by decide +kernel
theorem dL_pass_0 : decode cL_pass 0 = .ok (.aload_n 2, 1) := by decide +kernel
theorem dL_pass_1 : decode cL_pass 1 = .ok (.iconst 0, 1) := by decide +kernel
theorem dL_pass_2 : decode cL_pass 2 = .ok (.aload_n 0, 1) := by decide +kernel
theorem dL_pass_3 : decode cL_pass 3 = .ok (.iload_n 1, 1) := by decide +kernel
theorem dL_pass_4 : decode cL_pass 4 = .ok (.invokevirtual 27, 3) := by decide +kernel
theorem dL_pass_7 : decode cL_pass 7 = .ok (.i2l, 1) := by decide +kernel
theorem dL_pass_8 : decode cL_pass 8 = .ok (.lastore, 1) := by decide +kernel
theorem dL_pass_9 : decode cL_pass 9 = .ok (.goto 9, 3) := by decide +kernel
theorem dL_pass_12 : decode cL_pass 12 = .ok (.astore_n 3, 1) := by decide +kernel
theorem dL_pass_13 : decode cL_pass 13 = .ok (.iconst 1, 1) := by decide +kernel
theorem dL_pass_14 : decode cL_pass 14 = .ok (.ireturn, 1) := by decide +kernel
theorem dL_pass_15 : decode cL_pass 15 = .ok (.astore_n 3, 1) := by decide +kernel
theorem dL_pass_16 : decode cL_pass 16 = .ok (.iconst 2, 1) := by decide +kernel
theorem dL_pass_17 : decode cL_pass 17 = .ok (.ireturn, 1) := by decide +kernel
theorem dL_pass_18 : decode cL_pass 18 = .ok (.iconst 0, 1) := by decide +kernel
theorem dL_pass_19 : decode cL_pass 19 = .ok (.ireturn, 1) := by decide +kernel
theorem dL_once_0 : decode cL_once 0 = .ok (.aload 5, 2) := by decide +kernel
theorem dL_once_2 : decode cL_once 2 = .ok (.iconst 0, 1) := by decide +kernel
theorem dL_once_3 : decode cL_once 3 = .ok (.aload_n 0, 1) := by decide +kernel
theorem dL_once_4 : decode cL_once 4 = .ok (.iload_n 1, 1) := by decide +kernel
theorem dL_once_5 : decode cL_once 5 = .ok (.iload_n 2, 1) := by decide +kernel
theorem dL_once_6 : decode cL_once 6 = .ok (.iload_n 3, 1) := by decide +kernel
theorem dL_once_7 : decode cL_once 7 = .ok (.iload 4, 2) := by decide +kernel
theorem dL_once_9 : decode cL_once 9 = .ok (.invokevirtual 30, 3) := by decide +kernel
theorem dL_once_12 : decode cL_once 12 = .ok (.i2l, 1) := by decide +kernel
theorem dL_once_13 : decode cL_once 13 = .ok (.lastore, 1) := by decide +kernel
theorem dL_once_14 : decode cL_once 14 = .ok (.goto 15, 3) := by decide +kernel
theorem dL_once_17 : decode cL_once 17 = .ok (.astore 6, 2) := by decide +kernel
theorem dL_once_19 : decode cL_once 19 = .ok (.iconst 1, 1) := by decide +kernel
theorem dL_once_20 : decode cL_once 20 = .ok (.ireturn, 1) := by decide +kernel
theorem dL_once_21 : decode cL_once 21 = .ok (.astore 6, 2) := by decide +kernel
theorem dL_once_23 : decode cL_once 23 = .ok (.iconst 2, 1) := by decide +kernel
theorem dL_once_24 : decode cL_once 24 = .ok (.ireturn, 1) := by decide +kernel
theorem dL_once_25 : decode cL_once 25 = .ok (.astore 6, 2) := by decide +kernel
theorem dL_once_27 : decode cL_once 27 = .ok (.iconst 3, 1) := by decide +kernel
theorem dL_once_28 : decode cL_once 28 = .ok (.ireturn, 1) := by decide +kernel
theorem dL_once_29 : decode cL_once 29 = .ok (.iconst 0, 1) := by decide +kernel
theorem dL_once_30 : decode cL_once 30 = .ok (.ireturn, 1) := by decide +kernel
theorem dL_daily_0 : decode cL_daily 0 = .ok (.aload 6, 2) := by decide +kernel
theorem dL_daily_2 : decode cL_daily 2 = .ok (.iconst 0, 1) := by decide +kernel
theorem dL_daily_3 : decode cL_daily 3 = .ok (.aload_n 0, 1) := by decide +kernel
theorem dL_daily_4 : decode cL_daily 4 = .ok (.iload_n 1, 1) := by decide +kernel
theorem dL_daily_5 : decode cL_daily 5 = .ok (.iload_n 2, 1) := by decide +kernel
theorem dL_daily_6 : decode cL_daily 6 = .ok (.iload_n 3, 1) := by decide +kernel
theorem dL_daily_7 : decode cL_daily 7 = .ok (.iload 4, 2) := by decide +kernel
theorem dL_daily_9 : decode cL_daily 9 = .ok (.iload 5, 2) := by decide +kernel
