theorem dX6_excuse_49 : decode cX6_excuse 49 = .ok (.dup, 1) := by decide +kernel
theorem dX6_excuse_50 : decode cX6_excuse 50 = .ok (.ldc 184, 2) := by decide +kernel
theorem dX6_excuse_52 : decode cX6_excuse 52 = .ok (.invokespecial 51, 3) := by decide +kernel
theorem dX6_excuse_55 : decode cX6_excuse 55 = .ok (.athrow, 1) := by decide +kernel
theorem dX6_excuse_56 : decode cX6_excuse 56 = .ok (.aload_n 0, 1) := by decide +kernel
theorem dX6_excuse_57 : decode cX6_excuse 57 = .ok (.aload 4, 2) := by decide +kernel
theorem dX6_excuse_59 : decode cX6_excuse 59 = .ok (.getfield 186, 3) := by decide +kernel
theorem dX6_excuse_62 : decode cX6_excuse 62 = .ok (.invokevirtual 189, 3) := by decide +kernel
theorem dX6_excuse_65 : decode cX6_excuse 65 = .ok (.istore 5, 2) := by decide +kernel
theorem dX6_excuse_67 : decode cX6_excuse 67 = .ok (.iload 5, 2) := by decide +kernel
theorem dX6_excuse_69 : decode cX6_excuse 69 = .ok (.iconst (-1), 1) := by decide +kernel
theorem dX6_excuse_70 : decode cX6_excuse 70 = .ok (.if_icmp .ne 13, 3) := by decide +kernel
theorem dX6_excuse_73 : decode cX6_excuse 73 = .ok (.new 47, 3) := by decide +kernel
theorem dX6_excuse_76 : decode cX6_excuse 76 = .ok (.dup, 1) := by decide +kernel
theorem dX6_excuse_77 : decode cX6_excuse 77 = .ok (.ldc 192, 2) := by decide +kernel
theorem dX6_excuse_79 : decode cX6_excuse 79 = .ok (.invokespecial 51, 3) := by decide +kernel
theorem dX6_excuse_82 : decode cX6_excuse 82 = .ok (.athrow, 1) := by decide +kernel
theorem dX6_excuse_83 : decode cX6_excuse 83 = .ok (.aload_n 0, 1) := by decide +kernel
theorem dX6_excuse_84 : decode cX6_excuse 84 = .ok (.getfield 31, 3) := by decide +kernel
theorem dX6_excuse_87 : decode cX6_excuse 87 = .ok (.iload 5, 2) := by decide +kernel
theorem dX6_excuse_89 : decode cX6_excuse 89 = .ok (.dup2, 1) := by decide +kernel
theorem dX6_excuse_90 : decode cX6_excuse 90 = .ok (.iaload, 1) := by decide +kernel
theorem dX6_excuse_91 : decode cX6_excuse 91 = .ok (.iconst 1, 1) := by decide +kernel
theorem dX6_excuse_92 : decode cX6_excuse 92 = .ok (.isub, 1) := by decide +kernel
theorem dX6_excuse_93 : decode cX6_excuse 93 = .ok (.iastore, 1) := by decide +kernel
theorem dX6_excuse_94 : decode cX6_excuse 94 = .ok (.aload_n 3, 1) := by decide +kernel
theorem dX6_excuse_95 : decode cX6_excuse 95 = .ok (.dup, 1) := by decide +kernel
theorem dX6_excuse_96 : decode cX6_excuse 96 = .ok (.getfield 140, 3) := by decide +kernel
theorem dX6_excuse_99 : decode cX6_excuse 99 = .ok (.iconst 1, 1) := by decide +kernel
theorem dX6_excuse_100 : decode cX6_excuse 100 = .ok (.iload_n 2, 1) := by decide +kernel
theorem dX6_excuse_101 : decode cX6_excuse 101 = .ok (.ishl, 1) := by decide +kernel
theorem dX6_excuse_102 : decode cX6_excuse 102 = .ok (.ior, 1) := by decide +kernel
theorem dX6_excuse_103 : decode cX6_excuse 103 = .ok (.putfield 140, 3) := by decide +kernel
theorem dX6_excuse_106 : decode cX6_excuse 106 = .ok (.iload 5, 2) := by decide +kernel
theorem dX6_excuse_108 : decode cX6_excuse 108 = .ok (.ireturn, 1) := by decide +kernel
theorem dX6_badHours_0 : decode cX6_badHours 0 = .ok (.aload_n 0, 1) := by decide +kernel
theorem dX6_badHours_1 : decode cX6_badHours 1 = .ok (.aload_n 0, 1) := by decide +kernel
theorem dX6_badHours_2 : decode cX6_badHours 2 = .ok (.iload_n 1, 1) := by decide +kernel
theorem dX6_badHours_3 : decode cX6_badHours 3 = .ok (.invokevirtual 123, 3) := by decide +kernel
theorem dX6_badHours_6 : decode cX6_badHours 6 = .ok (.invokevirtual 143, 3) := by decide +kernel
theorem dX6_badHours_9 : decode cX6_badHours 9 = .ok (.ireturn, 1) := by decide +kernel
theorem dX6_badHoursOneByOne_0 : decode cX6_badHoursOneByOne 0 = .ok (.aload_n 0, 1) := by decide +kernel
theorem dX6_badHoursOneByOne_1 : decode cX6_badHoursOneByOne 1 = .ok (.iload_n 1, 1) := by decide +kernel
theorem dX6_badHoursOneByOne_2 : decode cX6_badHoursOneByOne 2 = .ok (.invokevirtual 123, 3) := by decide +kernel
theorem dX6_badHoursOneByOne_5 : decode cX6_badHoursOneByOne 5 = .ok (.astore_n 2, 1) := by decide +kernel
theorem dX6_badHoursOneByOne_6 : decode cX6_badHoursOneByOne 6 = .ok (.aload_n 0, 1) := by decide +kernel
theorem dX6_badHoursOneByOne_7 : decode cX6_badHoursOneByOne 7 = .ok (.aload_n 2, 1) := by decide +kernel
theorem dX6_badHoursOneByOne_8 : decode cX6_badHoursOneByOne 8 = .ok (.invokevirtual 194, 3) := by decide +kernel
theorem dX6_badHoursOneByOne_11 : decode cX6_badHoursOneByOne 11 = .ok (.istore_n 3, 1) := by decide +kernel
theorem dX6_badHoursOneByOne_12 : decode cX6_badHoursOneByOne 12 = .ok (.iconst 0, 1) := by decide +kernel
theorem dX6_badHoursOneByOne_13 : decode cX6_badHoursOneByOne 13 = .ok (.istore 4, 2) := by decide +kernel
theorem dX6_badHoursOneByOne_15 : decode cX6_badHoursOneByOne 15 = .ok (.aload_n 2, 1) := by decide +kernel
theorem dX6_badHoursOneByOne_16 : decode cX6_badHoursOneByOne 16 = .ok (.getfield 134, 3) := by decide +kernel
theorem dX6_badHoursOneByOne_19 : decode cX6_badHoursOneByOne 19 = .ok (.istore 5, 2) := by decide +kernel
theorem dX6_badHoursOneByOne_21 : decode cX6_badHoursOneByOne 21 = .ok (.iload 5, 2) := by decide +kernel
theorem dX6_badHoursOneByOne_23 : decode cX6_badHoursOneByOne 23 = .ok (.aload_n 2, 1) := by decide +kernel
theorem dX6_badHoursOneByOne_24 : decode cX6_badHoursOneByOne 24 = .ok (.invokevirtual 171, 3) := by decide +kernel
theorem dX6_badHoursOneByOne_27 : decode cX6_badHoursOneByOne 27 = .ok (.if_icmp .ge 22, 3) := by decide +kernel
theorem dX6_badHoursOneByOne_30 : decode cX6_badHoursOneByOne 30 = .ok (.aload_n 0, 1) := by decide +kernel
theorem dX6_badHoursOneByOne_31 : decode cX6_badHoursOneByOne 31 = .ok (.iload_n 3, 1) := by decide +kernel
theorem dX6_badHoursOneByOne_32 : decode cX6_badHoursOneByOne 32 = .ok (.iload 5, 2) := by decide +kernel
theorem dX6_badHoursOneByOne_34 : decode cX6_badHoursOneByOne 34 = .ok (.invokevirtual 110, 3) := by decide +kernel
theorem dX6_badHoursOneByOne_37 : decode cX6_badHoursOneByOne 37 = .ok (.ifCond .eq 6, 3) := by decide +kernel
theorem dX6_badHoursOneByOne_40 : decode cX6_badHoursOneByOne 40 = .ok (.iinc 4 1, 3) := by decide +kernel
theorem dX6_badHoursOneByOne_43 : decode cX6_badHoursOneByOne 43 = .ok (.iinc 5 1, 3) := by decide +kernel
theorem dX6_badHoursOneByOne_46 : decode cX6_badHoursOneByOne 46 = .ok (.goto (-25), 3) := by decide +kernel
theorem dX6_badHoursOneByOne_49 : decode cX6_badHoursOneByOne 49 = .ok (.iload 4, 2) := by decide +kernel
theorem dX6_badHoursOneByOne_51 : decode cX6_badHoursOneByOne 51 = .ok (.ireturn, 1) := by decide +kernel
theorem dX6_firstBad_0 : decode cX6_firstBad 0 = .ok (.aload_n 0, 1) := by decide +kernel
theorem dX6_firstBad_1 : decode cX6_firstBad 1 = .ok (.aload_n 0, 1) := by decide +kernel
theorem dX6_firstBad_2 : decode cX6_firstBad 2 = .ok (.iload_n 1, 1) := by decide +kernel
theorem dX6_firstBad_3 : decode cX6_firstBad 3 = .ok (.invokevirtual 123, 3) := by decide +kernel
theorem dX6_firstBad_6 : decode cX6_firstBad 6 = .ok (.invokevirtual 156, 3) := by decide +kernel
theorem dX6_firstBad_9 : decode cX6_firstBad 9 = .ok (.ireturn, 1) := by decide +kernel
theorem dX6_reasons_0 : decode cX6_reasons 0 = .ok (.aload_n 0, 1) := by decide +kernel
theorem dX6_reasons_1 : decode cX6_reasons 1 = .ok (.iload_n 1, 1) := by decide +kernel
theorem dX6_reasons_2 : decode cX6_reasons 2 = .ok (.invokevirtual 123, 3) := by decide +kernel
theorem dX6_reasons_5 : decode cX6_reasons 5 = .ok (.astore_n 2, 1) := by decide +kernel
theorem dX6_reasons_6 : decode cX6_reasons 6 = .ok (.aload_n 0, 1) := by decide +kernel
theorem dX6_reasons_7 : decode cX6_reasons 7 = .ok (.aload_n 2, 1) := by decide +kernel
theorem dX6_reasons_8 : decode cX6_reasons 8 = .ok (.invokevirtual 194, 3) := by decide +kernel
theorem dX6_reasons_11 : decode cX6_reasons 11 = .ok (.istore_n 3, 1) := by decide +kernel
theorem dX6_reasons_12 : decode cX6_reasons 12 = .ok (.iconst 0, 1) := by decide +kernel
theorem dX6_reasons_13 : decode cX6_reasons 13 = .ok (.istore 4, 2) := by decide +kernel
theorem dX6_reasons_15 : decode cX6_reasons 15 = .ok (.aload_n 2, 1) := by decide +kernel
theorem dX6_reasons_16 : decode cX6_reasons 16 = .ok (.getfield 134, 3) := by decide +kernel
theorem dX6_reasons_19 : decode cX6_reasons 19 = .ok (.istore 5, 2) := by decide +kernel
theorem dX6_reasons_21 : decode cX6_reasons 21 = .ok (.iload 5, 2) := by decide +kernel
theorem dX6_reasons_23 : decode cX6_reasons 23 = .ok (.aload_n 2, 1) := by decide +kernel
theorem dX6_reasons_24 : decode cX6_reasons 24 = .ok (.invokevirtual 171, 3) := by decide +kernel
theorem dX6_reasons_27 : decode cX6_reasons 27 = .ok (.if_icmp .ge 21, 3) := by decide +kernel
theorem dX6_reasons_30 : decode cX6_reasons 30 = .ok (.iload 4, 2) := by decide +kernel
theorem dX6_reasons_32 : decode cX6_reasons 32 = .ok (.aload_n 0, 1) := by decide +kernel
theorem dX6_reasons_33 : decode cX6_reasons 33 = .ok (.iload_n 3, 1) := by decide +kernel
theorem dX6_reasons_34 : decode cX6_reasons 34 = .ok (.iload 5, 2) := by decide +kernel
theorem dX6_reasons_36 : decode cX6_reasons 36 = .ok (.invokevirtual 110, 3) := by decide +kernel
theorem dX6_reasons_39 : decode cX6_reasons 39 = .ok (.ior, 1) := by decide +kernel
theorem dX6_reasons_40 : decode cX6_reasons 40 = .ok (.istore 4, 2) := by decide +kernel
theorem dX6_reasons_42 : decode cX6_reasons 42 = .ok (.iinc 5 1, 3) := by decide +kernel
theorem dX6_reasons_45 : decode cX6_reasons 45 = .ok (.goto (-24), 3) := by decide +kernel
theorem dX6_reasons_48 : decode cX6_reasons 48 = .ok (.iload 4, 2) := by decide +kernel
theorem dX6_reasons_50 : decode cX6_reasons 50 = .ok (.ireturn, 1) := by decide +kernel
theorem dX6_needScope_0 : decode cX6_needScope 0 = .ok (.iload_n 1, 1) := by decide +kernel
theorem dX6_needScope_1 : decode cX6_needScope 1 = .ok (.ifCond .lt 17, 3) := by decide +kernel
theorem dX6_needScope_4 : decode cX6_needScope 4 = .ok (.iload_n 1, 1) := by decide +kernel
theorem dX6_needScope_5 : decode cX6_needScope 5 = .ok (.aload_n 0, 1) := by decide +kernel
theorem dX6_needScope_6 : decode cX6_needScope 6 = .ok (.getfield 38, 3) := by decide +kernel
theorem dX6_needScope_9 : decode cX6_needScope 9 = .ok (.if_icmp .ge 9, 3) := by decide +kernel
theorem dX6_needScope_12 : decode cX6_needScope 12 = .ok (.iload_n 1, 1) := by decide +kernel
theorem dX6_needScope_13 : decode cX6_needScope 13 = .ok (.bipush 16, 2) := by decide +kernel
theorem dX6_needScope_15 : decode cX6_needScope 15 = .ok (.if_icmp .lt 13, 3) := by decide +kernel
theorem dX6_needScope_18 : decode cX6_needScope 18 = .ok (.new 197, 3) := by decide +kernel
theorem dX6_needScope_21 : decode cX6_needScope 21 = .ok (.dup, 1) := by decide +kernel
theorem dX6_needScope_22 : decode cX6_needScope 22 = .ok (.ldc 199, 2) := by decide +kernel
theorem dX6_needScope_24 : decode cX6_needScope 24 = .ok (.invokespecial 201, 3) := by decide +kernel
theorem dX6_needScope_27 : decode cX6_needScope 27 = .ok (.athrow, 1) := by decide +kernel
theorem dX6_needScope_28 : decode cX6_needScope 28 = .ok (.return_, 1) := by decide +kernel
theorem dX6_needLand_0 : decode cX6_needLand 0 = .ok (.iload_n 1, 1) := by decide +kernel
theorem dX6_needLand_1 : decode cX6_needLand 1 = .ok (.ifCond .lt 17, 3) := by decide +kernel
theorem dX6_needLand_4 : decode cX6_needLand 4 = .ok (.iload_n 1, 1) := by decide +kernel
theorem dX6_needLand_5 : decode cX6_needLand 5 = .ok (.iconst 4, 1) := by decide +kernel
theorem dX6_needLand_6 : decode cX6_needLand 6 = .ok (.if_icmp .ge 12, 3) := by decide +kernel
theorem dX6_needLand_9 : decode cX6_needLand 9 = .ok (.aload_n 0, 1) := by decide +kernel
theorem dX6_needLand_10 : decode cX6_needLand 10 = .ok (.getfield 15, 3) := by decide +kernel
theorem dX6_needLand_13 : decode cX6_needLand 13 = .ok (.iload_n 1, 1) := by decide +kernel
theorem dX6_needLand_14 : decode cX6_needLand 14 = .ok (.aaload, 1) := by decide +kernel
theorem dX6_needLand_15 : decode cX6_needLand 15 = .ok (.goto 4, 3) := by decide +kernel
theorem dX6_needLand_18 : decode cX6_needLand 18 = .ok (.aconst_null, 1) := by decide +kernel
theorem dX6_needLand_19 : decode cX6_needLand 19 = .ok (.astore_n 2, 1) := by decide +kernel
theorem dX6_needLand_20 : decode cX6_needLand 20 = .ok (.aload_n 2, 1) := by decide +kernel
theorem dX6_needLand_21 : decode cX6_needLand 21 = .ok (.ifnonnull 13, 3) := by decide +kernel
theorem dX6_needLand_24 : decode cX6_needLand 24 = .ok (.new 197, 3) := by decide +kernel
theorem dX6_needLand_27 : decode cX6_needLand 27 = .ok (.dup, 1) := by decide +kernel
theorem dX6_needLand_28 : decode cX6_needLand 28 = .ok (.ldc 202, 2) := by decide +kernel
theorem dX6_needLand_30 : decode cX6_needLand 30 = .ok (.invokespecial 201, 3) := by decide +kernel
theorem dX6_needLand_33 : decode cX6_needLand 33 = .ok (.athrow, 1) := by decide +kernel
theorem dX6_needLand_34 : decode cX6_needLand 34 = .ok (.aload_n 2, 1) := by decide +kernel
theorem dX6_needLand_35 : decode cX6_needLand 35 = .ok (.areturn, 1) := by decide +kernel
theorem dX6_needFreeze_0 : decode cX6_needFreeze 0 = .ok (.iload_n 1, 1) := by decide +kernel
theorem dX6_needFreeze_1 : decode cX6_needFreeze 1 = .ok (.ifCond .lt 18, 3) := by decide +kernel
theorem dX6_needFreeze_4 : decode cX6_needFreeze 4 = .ok (.iload_n 1, 1) := by decide +kernel
theorem dX6_needFreeze_5 : decode cX6_needFreeze 5 = .ok (.bipush 20, 2) := by decide +kernel
theorem dX6_needFreeze_7 : decode cX6_needFreeze 7 = .ok (.if_icmp .ge 12, 3) := by decide +kernel
theorem dX6_needFreeze_10 : decode cX6_needFreeze 10 = .ok (.aload_n 0, 1) := by decide +kernel
theorem dX6_needFreeze_11 : decode cX6_needFreeze 11 = .ok (.getfield 21, 3) := by decide +kernel
theorem dX6_needFreeze_14 : decode cX6_needFreeze 14 = .ok (.iload_n 1, 1) := by decide +kernel
theorem dX6_needFreeze_15 : decode cX6_needFreeze 15 = .ok (.aaload, 1) := by decide +kernel
theorem dX6_needFreeze_16 : decode cX6_needFreeze 16 = .ok (.goto 4, 3) := by decide +kernel
theorem dX6_needFreeze_19 : decode cX6_needFreeze 19 = .ok (.aconst_null, 1) := by decide +kernel
theorem dX6_needFreeze_20 : decode cX6_needFreeze 20 = .ok (.astore_n 2, 1) := by decide +kernel
theorem dX6_needFreeze_21 : decode cX6_needFreeze 21 = .ok (.aload_n 2, 1) := by decide +kernel
theorem dX6_needFreeze_22 : decode cX6_needFreeze 22 = .ok (.ifnonnull 13, 3) := by decide +kernel
theorem dX6_needFreeze_25 : decode cX6_needFreeze 25 = .ok (.new 204, 3) := by decide +kernel
theorem dX6_needFreeze_28 : decode cX6_needFreeze 28 = .ok (.dup, 1) := by decide +kernel
theorem dX6_needFreeze_29 : decode cX6_needFreeze 29 = .ok (.ldc 206, 2) := by decide +kernel
theorem dX6_needFreeze_31 : decode cX6_needFreeze 31 = .ok (.invokespecial 208, 3) := by decide +kernel
theorem dX6_needFreeze_34 : decode cX6_needFreeze 34 = .ok (.athrow, 1) := by decide +kernel
theorem dX6_needFreeze_35 : decode cX6_needFreeze 35 = .ok (.aload_n 2, 1) := by decide +kernel
theorem dX6_needFreeze_36 : decode cX6_needFreeze 36 = .ok (.areturn, 1) := by decide +kernel
theorem dX6_needChange_0 : decode cX6_needChange 0 = .ok (.iload_n 1, 1) := by decide +kernel
theorem dX6_needChange_1 : decode cX6_needChange 1 = .ok (.ifCond .lt 18, 3) := by decide +kernel
theorem dX6_needChange_4 : decode cX6_needChange 4 = .ok (.iload_n 1, 1) := by decide +kernel
theorem dX6_needChange_5 : decode cX6_needChange 5 = .ok (.bipush 30, 2) := by decide +kernel
theorem dX6_needChange_7 : decode cX6_needChange 7 = .ok (.if_icmp .ge 12, 3) := by decide +kernel
theorem dX6_needChange_10 : decode cX6_needChange 10 = .ok (.aload_n 0, 1) := by decide +kernel
theorem dX6_needChange_11 : decode cX6_needChange 11 = .ok (.getfield 27, 3) := by decide +kernel
theorem dX6_needChange_14 : decode cX6_needChange 14 = .ok (.iload_n 1, 1) := by decide +kernel
theorem dX6_needChange_15 : decode cX6_needChange 15 = .ok (.aaload, 1) := by decide +kernel
theorem dX6_needChange_16 : decode cX6_needChange 16 = .ok (.goto 4, 3) := by decide +kernel
theorem dX6_needChange_19 : decode cX6_needChange 19 = .ok (.aconst_null, 1) := by decide +kernel
theorem dX6_needChange_20 : decode cX6_needChange 20 = .ok (.astore_n 2, 1) := by decide +kernel
theorem dX6_needChange_21 : decode cX6_needChange 21 = .ok (.aload_n 2, 1) := by decide +kernel
theorem dX6_needChange_22 : decode cX6_needChange 22 = .ok (.ifnonnull 13, 3) := by decide +kernel
theorem dX6_needChange_25 : decode cX6_needChange 25 = .ok (.new 197, 3) := by decide +kernel
theorem dX6_needChange_28 : decode cX6_needChange 28 = .ok (.dup, 1) := by decide +kernel
theorem dX6_needChange_29 : decode cX6_needChange 29 = .ok (.ldc 209, 2) := by decide +kernel
theorem dX6_needChange_31 : decode cX6_needChange 31 = .ok (.invokespecial 201, 3) := by decide +kernel
theorem dX6_needChange_34 : decode cX6_needChange 34 = .ok (.athrow, 1) := by decide +kernel
theorem dX6_needChange_35 : decode cX6_needChange 35 = .ok (.aload_n 2, 1) := by decide +kernel
theorem dX6_needChange_36 : decode cX6_needChange 36 = .ok (.areturn, 1) := by decide +kernel
theorem dX6_needRange_0 : decode cX6_needRange 0 = .ok (.iload_n 0, 1) := by decide +kernel
theorem dX6_needRange_1 : decode cX6_needRange 1 = .ok (.iload_n 1, 1) := by decide +kernel
theorem dX6_needRange_2 : decode cX6_needRange 2 = .ok (.if_icmp .lt 8, 3) := by decide +kernel
theorem dX6_needRange_5 : decode cX6_needRange 5 = .ok (.iload_n 0, 1) := by decide +kernel
theorem dX6_needRange_6 : decode cX6_needRange 6 = .ok (.iload_n 2, 1) := by decide +kernel
theorem dX6_needRange_7 : decode cX6_needRange 7 = .ok (.if_icmp .le 13, 3) := by decide +kernel
theorem dX6_needRange_10 : decode cX6_needRange 10 = .ok (.new 211, 3) := by decide +kernel
theorem dX6_needRange_13 : decode cX6_needRange 13 = .ok (.dup, 1) := by decide +kernel
theorem dX6_needRange_14 : decode cX6_needRange 14 = .ok (.ldc 213, 2) := by decide +kernel
theorem dX6_needRange_16 : decode cX6_needRange 16 = .ok (.invokespecial 215, 3) := by decide +kernel
theorem dX6_needRange_19 : decode cX6_needRange 19 = .ok (.athrow, 1) := by decide +kernel
theorem dX6_needRange_20 : decode cX6_needRange 20 = .ok (.return_, 1) := by decide +kernel
theorem dX6_needPlanned_0 : decode cX6_needPlanned 0 = .ok (.aload_n 0, 1) := by decide +kernel
theorem dX6_needPlanned_1 : decode cX6_needPlanned 1 = .ok (.getfield 161, 3) := by decide +kernel
theorem dX6_needPlanned_4 : decode cX6_needPlanned 4 = .ok (.ifCond .eq 13, 3) := by decide +kernel
theorem dX6_needPlanned_7 : decode cX6_needPlanned 7 = .ok (.new 47, 3) := by decide +kernel
theorem dX6_needPlanned_10 : decode cX6_needPlanned 10 = .ok (.dup, 1) := by decide +kernel
theorem dX6_needPlanned_11 : decode cX6_needPlanned 11 = .ok (.ldc 216, 2) := by decide +kernel
theorem dX6_needPlanned_13 : decode cX6_needPlanned 13 = .ok (.invokespecial 51, 3) := by decide +kernel
theorem dX6_needPlanned_16 : decode cX6_needPlanned 16 = .ok (.athrow, 1) := by decide +kernel
theorem dX6_needPlanned_17 : decode cX6_needPlanned 17 = .ok (.return_, 1) := by decide +kernel
theorem dX6_needRoomForFreeze_0 : decode cX6_needRoomForFreeze 0 = .ok (.aload_n 0, 1) := by decide +kernel
theorem dX6_needRoomForFreeze_1 : decode cX6_needRoomForFreeze 1 = .ok (.getfield 165, 3) := by decide +kernel
theorem dX6_needRoomForFreeze_4 : decode cX6_needRoomForFreeze 4 = .ok (.bipush 20, 2) := by decide +kernel
theorem dX6_needRoomForFreeze_6 : decode cX6_needRoomForFreeze 6 = .ok (.if_icmp .lt 13, 3) := by decide +kernel
theorem dX6_needRoomForFreeze_9 : decode cX6_needRoomForFreeze 9 = .ok (.new 47, 3) := by decide +kernel
theorem dX6_needRoomForFreeze_12 : decode cX6_needRoomForFreeze 12 = .ok (.dup, 1) := by decide +kernel
theorem dX6_needRoomForFreeze_13 : decode cX6_needRoomForFreeze 13 = .ok (.ldc 218, 2) := by decide +kernel
theorem dX6_needRoomForFreeze_15 : decode cX6_needRoomForFreeze 15 = .ok (.invokespecial 51, 3) := by decide +kernel
theorem dX6_needRoomForFreeze_18 : decode cX6_needRoomForFreeze 18 = .ok (.athrow, 1) := by decide +kernel
theorem dX6_needRoomForFreeze_19 : decode cX6_needRoomForFreeze 19 = .ok (.return_, 1) := by decide +kernel
theorem dX6_isInSet_0 : decode cX6_isInSet 0 = .ok (.iload_n 0, 1) := by decide +kernel
theorem dX6_isInSet_1 : decode cX6_isInSet 1 = .ok (.iload_n 1, 1) := by decide +kernel
theorem dX6_isInSet_2 : decode cX6_isInSet 2 = .ok (.ishr, 1) := by decide +kernel
theorem dX6_isInSet_3 : decode cX6_isInSet 3 = .ok (.iconst 1, 1) := by decide +kernel
theorem dX6_isInSet_4 : decode cX6_isInSet 4 = .ok (.iand, 1) := by decide +kernel
theorem dX6_isInSet_5 : decode cX6_isInSet 5 = .ok (.ifCond .eq 7, 3) := by decide +kernel
theorem dX6_isInSet_8 : decode cX6_isInSet 8 = .ok (.iconst 1, 1) := by decide +kernel
theorem dX6_isInSet_9 : decode cX6_isInSet 9 = .ok (.goto 4, 3) := by decide +kernel
theorem dX6_isInSet_12 : decode cX6_isInSet 12 = .ok (.iconst 0, 1) := by decide +kernel
theorem dX6_isInSet_13 : decode cX6_isInSet 13 = .ok (.ireturn, 1) := by decide +kernel
theorem dX6_lay_0 : decode cX6_lay 0 = .ok (.aload_n 0, 1) := by decide +kernel
theorem dX6_lay_1 : decode cX6_lay 1 = .ok (.getfield 165, 3) := by decide +kernel
theorem dX6_lay_4 : decode cX6_lay 4 = .ok (.istore_n 2, 1) := by decide +kernel
theorem dX6_lay_5 : decode cX6_lay 5 = .ok (.aload_n 0, 1) := by decide +kernel
theorem dX6_lay_6 : decode cX6_lay 6 = .ok (.getfield 21, 3) := by decide +kernel
theorem dX6_lay_9 : decode cX6_lay 9 = .ok (.iload_n 2, 1) := by decide +kernel
theorem dX6_lay_10 : decode cX6_lay 10 = .ok (.aload_n 1, 1) := by decide +kernel
theorem dX6_lay_11 : decode cX6_lay 11 = .ok (.aastore, 1) := by decide +kernel
theorem dX6_lay_12 : decode cX6_lay 12 = .ok (.aload_n 0, 1) := by decide +kernel
theorem dX6_lay_13 : decode cX6_lay 13 = .ok (.iload_n 2, 1) := by decide +kernel
theorem dX6_lay_14 : decode cX6_lay 14 = .ok (.iconst 1, 1) := by decide +kernel
theorem dX6_lay_15 : decode cX6_lay 15 = .ok (.iadd, 1) := by decide +kernel
theorem dX6_lay_16 : decode cX6_lay 16 = .ok (.putfield 165, 3) := by decide +kernel
theorem dX6_lay_19 : decode cX6_lay 19 = .ok (.aload_n 0, 1) := by decide +kernel
theorem dX6_lay_20 : decode cX6_lay 20 = .ok (.dup, 1) := by decide +kernel
theorem dX6_lay_21 : decode cX6_lay 21 = .ok (.getfield 103, 3) := by decide +kernel
theorem dX6_lay_24 : decode cX6_lay 24 = .ok (.iconst 1, 1) := by decide +kernel
theorem dX6_lay_25 : decode cX6_lay 25 = .ok (.iadd, 1) := by decide +kernel
theorem dX6_lay_26 : decode cX6_lay 26 = .ok (.putfield 103, 3) := by decide +kernel
theorem dX6_lay_29 : decode cX6_lay 29 = .ok (.iload_n 2, 1) := by decide +kernel
theorem dX6_lay_30 : decode cX6_lay 30 = .ok (.ireturn, 1) := by decide +kernel
theorem dX6_isOneInTheOther_0 : decode cX6_isOneInTheOther 0 = .ok (.aload_n 0, 1) := by decide +kernel
theorem dX6_isOneInTheOther_1 : decode cX6_isOneInTheOther 1 = .ok (.getfield 9, 3) := by decide +kernel
theorem dX6_isOneInTheOther_4 : decode cX6_isOneInTheOther 4 = .ok (.iload_n 1, 1) := by decide +kernel
theorem dX6_isOneInTheOther_5 : decode cX6_isOneInTheOther 5 = .ok (.iaload, 1) := by decide +kernel
theorem dX6_isOneInTheOther_6 : decode cX6_isOneInTheOther 6 = .ok (.iload_n 2, 1) := by decide +kernel
theorem dX6_isOneInTheOther_7 : decode cX6_isOneInTheOther 7 = .ok (.invokestatic 178, 3) := by decide +kernel
theorem dX6_isOneInTheOther_10 : decode cX6_isOneInTheOther 10 = .ok (.ifCond .ne 16, 3) := by decide +kernel
theorem dX6_isOneInTheOther_13 : decode cX6_isOneInTheOther 13 = .ok (.aload_n 0, 1) := by decide +kernel
theorem dX6_isOneInTheOther_14 : decode cX6_isOneInTheOther 14 = .ok (.getfield 9, 3) := by decide +kernel
theorem dX6_isOneInTheOther_17 : decode cX6_isOneInTheOther 17 = .ok (.iload_n 2, 1) := by decide +kernel
theorem dX6_isOneInTheOther_18 : decode cX6_isOneInTheOther 18 = .ok (.iaload, 1) := by decide +kernel
theorem dX6_isOneInTheOther_19 : decode cX6_isOneInTheOther 19 = .ok (.iload_n 1, 1) := by decide +kernel
theorem dX6_isOneInTheOther_20 : decode cX6_isOneInTheOther 20 = .ok (.invokestatic 178, 3) := by decide +kernel
theorem dX6_isOneInTheOther_23 : decode cX6_isOneInTheOther 23 = .ok (.ifCond .eq 7, 3) := by decide +kernel
theorem dX6_isOneInTheOther_26 : decode cX6_isOneInTheOther 26 = .ok (.iconst 1, 1) := by decide +kernel
theorem dX6_isOneInTheOther_27 : decode cX6_isOneInTheOther 27 = .ok (.goto 4, 3) := by decide +kernel
theorem dX6_isOneInTheOther_30 : decode cX6_isOneInTheOther 30 = .ok (.iconst 0, 1) := by decide +kernel
theorem dX6_isOneInTheOther_31 : decode cX6_isOneInTheOther 31 = .ok (.ireturn, 1) := by decide +kernel
theorem dX6_freezesTouchingScope_0 : decode cX6_freezesTouchingScope 0 = .ok (.iconst 0, 1) := by decide +kernel
theorem dX6_freezesTouchingScope_1 : decode cX6_freezesTouchingScope 1 = .ok (.istore_n 2, 1) := by decide +kernel
theorem dX6_freezesTouchingScope_2 : decode cX6_freezesTouchingScope 2 = .ok (.iconst 0, 1) := by decide +kernel
theorem dX6_freezesTouchingScope_3 : decode cX6_freezesTouchingScope 3 = .ok (.istore_n 3, 1) := by decide +kernel
theorem dX6_freezesTouchingScope_4 : decode cX6_freezesTouchingScope 4 = .ok (.iload_n 3, 1) := by decide +kernel
theorem dX6_freezesTouchingScope_5 : decode cX6_freezesTouchingScope 5 = .ok (.bipush 20, 2) := by decide +kernel
theorem dX6_freezesTouchingScope_7 : decode cX6_freezesTouchingScope 7 = .ok (.if_icmp .ge 41, 3) := by decide +kernel
theorem dX6_freezesTouchingScope_10 : decode cX6_freezesTouchingScope 10 = .ok (.aload_n 0, 1) := by decide +kernel
theorem dX6_freezesTouchingScope_11 : decode cX6_freezesTouchingScope 11 = .ok (.getfield 21, 3) := by decide +kernel
theorem dX6_freezesTouchingScope_14 : decode cX6_freezesTouchingScope 14 = .ok (.iload_n 3, 1) := by decide +kernel
theorem dX6_freezesTouchingScope_15 : decode cX6_freezesTouchingScope 15 = .ok (.aaload, 1) := by decide +kernel
theorem dX6_freezesTouchingScope_16 : decode cX6_freezesTouchingScope 16 = .ok (.astore 4, 2) := by decide +kernel
theorem dX6_freezesTouchingScope_18 : decode cX6_freezesTouchingScope 18 = .ok (.aload 4, 2) := by decide +kernel
theorem dX6_freezesTouchingScope_20 : decode cX6_freezesTouchingScope 20 = .ok (.ifnull 22, 3) := by decide +kernel
theorem dX6_freezesTouchingScope_23 : decode cX6_freezesTouchingScope 23 = .ok (.aload_n 0, 1) := by decide +kernel
theorem dX6_freezesTouchingScope_24 : decode cX6_freezesTouchingScope 24 = .ok (.aload 4, 2) := by decide +kernel
theorem dX6_freezesTouchingScope_26 : decode cX6_freezesTouchingScope 26 = .ok (.getfield 220, 3) := by decide +kernel
theorem dX6_freezesTouchingScope_29 : decode cX6_freezesTouchingScope 29 = .ok (.iload_n 1, 1) := by decide +kernel
theorem dX6_freezesTouchingScope_30 : decode cX6_freezesTouchingScope 30 = .ok (.invokevirtual 223, 3) := by decide +kernel
theorem dX6_freezesTouchingScope_33 : decode cX6_freezesTouchingScope 33 = .ok (.ifCond .eq 9, 3) := by decide +kernel
theorem dX6_freezesTouchingScope_36 : decode cX6_freezesTouchingScope 36 = .ok (.iload_n 2, 1) := by decide +kernel
theorem dX6_freezesTouchingScope_37 : decode cX6_freezesTouchingScope 37 = .ok (.iconst 1, 1) := by decide +kernel
theorem dX6_freezesTouchingScope_38 : decode cX6_freezesTouchingScope 38 = .ok (.iload_n 3, 1) := by decide +kernel
theorem dX6_freezesTouchingScope_39 : decode cX6_freezesTouchingScope 39 = .ok (.ishl, 1) := by decide +kernel
theorem dX6_freezesTouchingScope_40 : decode cX6_freezesTouchingScope 40 = .ok (.ior, 1) := by decide +kernel
theorem dX6_freezesTouchingScope_41 : decode cX6_freezesTouchingScope 41 = .ok (.istore_n 2, 1) := by decide +kernel
theorem dX6_freezesTouchingScope_42 : decode cX6_freezesTouchingScope 42 = .ok (.iinc 3 1, 3) := by decide +kernel
theorem dX6_freezesTouchingScope_45 : decode cX6_freezesTouchingScope 45 = .ok (.goto (-41), 3) := by decide +kernel
theorem dX6_freezesTouchingScope_48 : decode cX6_freezesTouchingScope 48 = .ok (.iload_n 2, 1) := by decide +kernel
theorem dX6_freezesTouchingScope_49 : decode cX6_freezesTouchingScope 49 = .ok (.ireturn, 1) := by decide +kernel
theorem dX6_freezesTouchingChange_0 : decode cX6_freezesTouchingChange 0 = .ok (.iconst 1, 1) := by decide +kernel
theorem dX6_freezesTouchingChange_1 : decode cX6_freezesTouchingChange 1 = .ok (.aload_n 1, 1) := by decide +kernel
theorem dX6_freezesTouchingChange_2 : decode cX6_freezesTouchingChange 2 = .ok (.getfield 168, 3) := by decide +kernel
theorem dX6_freezesTouchingChange_5 : decode cX6_freezesTouchingChange 5 = .ok (.ishl, 1) := by decide +kernel
theorem dX6_freezesTouchingChange_6 : decode cX6_freezesTouchingChange 6 = .ok (.iconst 1, 1) := by decide +kernel
theorem dX6_freezesTouchingChange_7 : decode cX6_freezesTouchingChange 7 = .ok (.isub, 1) := by decide +kernel
theorem dX6_freezesTouchingChange_8 : decode cX6_freezesTouchingChange 8 = .ok (.istore_n 2, 1) := by decide +kernel
theorem dX6_freezesTouchingChange_9 : decode cX6_freezesTouchingChange 9 = .ok (.aload_n 0, 1) := by decide +kernel
theorem dX6_freezesTouchingChange_10 : decode cX6_freezesTouchingChange 10 = .ok (.aload_n 1, 1) := by decide +kernel
theorem dX6_freezesTouchingChange_11 : decode cX6_freezesTouchingChange 11 = .ok (.getfield 226, 3) := by decide +kernel
theorem dX6_freezesTouchingChange_14 : decode cX6_freezesTouchingChange 14 = .ok (.invokevirtual 106, 3) := by decide +kernel
theorem dX6_freezesTouchingChange_17 : decode cX6_freezesTouchingChange 17 = .ok (.iload_n 2, 1) := by decide +kernel
theorem dX6_freezesTouchingChange_18 : decode cX6_freezesTouchingChange 18 = .ok (.iand, 1) := by decide +kernel
theorem dX6_freezesTouchingChange_19 : decode cX6_freezesTouchingChange 19 = .ok (.ireturn, 1) := by decide +kernel
theorem dX6_freezesAgainst_0 : decode cX6_freezesAgainst 0 = .ok (.aload_n 0, 1) := by decide +kernel
theorem dX6_freezesAgainst_1 : decode cX6_freezesAgainst 1 = .ok (.aload_n 1, 1) := by decide +kernel
theorem dX6_freezesAgainst_2 : decode cX6_freezesAgainst 2 = .ok (.invokevirtual 175, 3) := by decide +kernel
theorem dX6_freezesAgainst_5 : decode cX6_freezesAgainst 5 = .ok (.aload_n 1, 1) := by decide +kernel
theorem dX6_freezesAgainst_6 : decode cX6_freezesAgainst 6 = .ok (.getfield 140, 3) := by decide +kernel
theorem dX6_freezesAgainst_9 : decode cX6_freezesAgainst 9 = .ok (.iconst (-1), 1) := by decide +kernel
theorem dX6_freezesAgainst_10 : decode cX6_freezesAgainst 10 = .ok (.ixor, 1) := by decide +kernel
theorem dX6_freezesAgainst_11 : decode cX6_freezesAgainst 11 = .ok (.iand, 1) := by decide +kernel
theorem dX6_freezesAgainst_12 : decode cX6_freezesAgainst 12 = .ok (.ireturn, 1) := by decide +kernel
theorem dX6_holdingAmong_0 : decode cX6_holdingAmong 0 = .ok (.iconst 0, 1) := by decide +kernel
theorem dX6_holdingAmong_1 : decode cX6_holdingAmong 1 = .ok (.istore_n 3, 1) := by decide +kernel
theorem dX6_holdingAmong_2 : decode cX6_holdingAmong 2 = .ok (.iconst 0, 1) := by decide +kernel
theorem dX6_holdingAmong_3 : decode cX6_holdingAmong 3 = .ok (.istore 4, 2) := by decide +kernel
theorem dX6_holdingAmong_5 : decode cX6_holdingAmong 5 = .ok (.iload 4, 2) := by decide +kernel
theorem dX6_holdingAmong_7 : decode cX6_holdingAmong 7 = .ok (.bipush 20, 2) := by decide +kernel
theorem dX6_holdingAmong_9 : decode cX6_holdingAmong 9 = .ok (.if_icmp .ge 48, 3) := by decide +kernel
theorem dX6_holdingAmong_12 : decode cX6_holdingAmong 12 = .ok (.aload_n 0, 1) := by decide +kernel
theorem dX6_holdingAmong_13 : decode cX6_holdingAmong 13 = .ok (.getfield 21, 3) := by decide +kernel
theorem dX6_holdingAmong_16 : decode cX6_holdingAmong 16 = .ok (.iload 4, 2) := by decide +kernel
theorem dX6_holdingAmong_18 : decode cX6_holdingAmong 18 = .ok (.aaload, 1) := by decide +kernel
theorem dX6_holdingAmong_19 : decode cX6_holdingAmong 19 = .ok (.astore 5, 2) := by decide +kernel
theorem dX6_holdingAmong_21 : decode cX6_holdingAmong 21 = .ok (.aload 5, 2) := by decide +kernel
theorem dX6_holdingAmong_23 : decode cX6_holdingAmong 23 = .ok (.ifnull 28, 3) := by decide +kernel
theorem dX6_holdingAmong_26 : decode cX6_holdingAmong 26 = .ok (.iload_n 1, 1) := by decide +kernel
theorem dX6_holdingAmong_27 : decode cX6_holdingAmong 27 = .ok (.iload 4, 2) := by decide +kernel
theorem dX6_holdingAmong_29 : decode cX6_holdingAmong 29 = .ok (.invokestatic 178, 3) := by decide +kernel
theorem dX6_holdingAmong_32 : decode cX6_holdingAmong 32 = .ok (.ifCond .eq 19, 3) := by decide +kernel
theorem dX6_holdingAmong_35 : decode cX6_holdingAmong 35 = .ok (.aload 5, 2) := by decide +kernel
theorem dX6_holdingAmong_37 : decode cX6_holdingAmong 37 = .ok (.iload_n 2, 1) := by decide +kernel
theorem dX6_holdingAmong_38 : decode cX6_holdingAmong 38 = .ok (.invokevirtual 114, 3) := by decide +kernel
theorem dX6_holdingAmong_41 : decode cX6_holdingAmong 41 = .ok (.ifCond .eq 10, 3) := by decide +kernel
theorem dX6_holdingAmong_44 : decode cX6_holdingAmong 44 = .ok (.iload_n 3, 1) := by decide +kernel
theorem dX6_holdingAmong_45 : decode cX6_holdingAmong 45 = .ok (.iconst 1, 1) := by decide +kernel
theorem dX6_holdingAmong_46 : decode cX6_holdingAmong 46 = .ok (.iload 4, 2) := by decide +kernel
theorem dX6_holdingAmong_48 : decode cX6_holdingAmong 48 = .ok (.ishl, 1) := by decide +kernel
theorem dX6_holdingAmong_49 : decode cX6_holdingAmong 49 = .ok (.ior, 1) := by decide +kernel
theorem dX6_holdingAmong_50 : decode cX6_holdingAmong 50 = .ok (.istore_n 3, 1) := by decide +kernel
theorem dX6_holdingAmong_51 : decode cX6_holdingAmong 51 = .ok (.iinc 4 1, 3) := by decide +kernel
theorem dX6_holdingAmong_54 : decode cX6_holdingAmong 54 = .ok (.goto (-49), 3) := by decide +kernel
theorem dX6_holdingAmong_57 : decode cX6_holdingAmong 57 = .ok (.iload_n 3, 1) := by decide +kernel
theorem dX6_holdingAmong_58 : decode cX6_holdingAmong 58 = .ok (.ireturn, 1) := by decide +kernel
theorem dX6_countBadHours_0 : decode cX6_countBadHours 0 = .ok (.iconst 0, 1) := by decide +kernel
theorem dX6_countBadHours_1 : decode cX6_countBadHours 1 = .ok (.istore_n 2, 1) := by decide +kernel
theorem dX6_countBadHours_2 : decode cX6_countBadHours 2 = .ok (.iload_n 2, 1) := by decide +kernel
theorem dX6_countBadHours_3 : decode cX6_countBadHours 3 = .ok (.bipush 100, 2) := by decide +kernel
theorem dX6_countBadHours_5 : decode cX6_countBadHours 5 = .ok (.if_icmp .ge 16, 3) := by decide +kernel
theorem dX6_countBadHours_8 : decode cX6_countBadHours 8 = .ok (.aload_n 0, 1) := by decide +kernel
theorem dX6_countBadHours_9 : decode cX6_countBadHours 9 = .ok (.getfield 34, 3) := by decide +kernel
theorem dX6_countBadHours_12 : decode cX6_countBadHours 12 = .ok (.iload_n 2, 1) := by decide +kernel
theorem dX6_countBadHours_13 : decode cX6_countBadHours 13 = .ok (.iconst 0, 1) := by decide +kernel
theorem dX6_countBadHours_14 : decode cX6_countBadHours 14 = .ok (.bastore, 1) := by decide +kernel
theorem dX6_countBadHours_15 : decode cX6_countBadHours 15 = .ok (.iinc 2 1, 3) := by decide +kernel
theorem dX6_countBadHours_18 : decode cX6_countBadHours 18 = .ok (.goto (-16), 3) := by decide +kernel
theorem dX6_countBadHours_21 : decode cX6_countBadHours 21 = .ok (.aload_n 0, 1) := by decide +kernel
theorem dX6_countBadHours_22 : decode cX6_countBadHours 22 = .ok (.aload_n 1, 1) := by decide +kernel
theorem dX6_countBadHours_23 : decode cX6_countBadHours 23 = .ok (.invokevirtual 194, 3) := by decide +kernel
theorem dX6_countBadHours_26 : decode cX6_countBadHours 26 = .ok (.istore_n 2, 1) := by decide +kernel
theorem dX6_countBadHours_27 : decode cX6_countBadHours 27 = .ok (.iconst 0, 1) := by decide +kernel
theorem dX6_countBadHours_28 : decode cX6_countBadHours 28 = .ok (.istore_n 3, 1) := by decide +kernel
theorem dX6_countBadHours_29 : decode cX6_countBadHours 29 = .ok (.iconst 0, 1) := by decide +kernel
theorem dX6_countBadHours_30 : decode cX6_countBadHours 30 = .ok (.istore 4, 2) := by decide +kernel
theorem dX6_countBadHours_32 : decode cX6_countBadHours 32 = .ok (.iload 4, 2) := by decide +kernel
theorem dX6_countBadHours_34 : decode cX6_countBadHours 34 = .ok (.bipush 20, 2) := by decide +kernel
theorem dX6_countBadHours_36 : decode cX6_countBadHours 36 = .ok (.if_icmp .ge 42, 3) := by decide +kernel
theorem dX6_countBadHours_39 : decode cX6_countBadHours 39 = .ok (.aload_n 0, 1) := by decide +kernel
theorem dX6_countBadHours_40 : decode cX6_countBadHours 40 = .ok (.getfield 21, 3) := by decide +kernel
theorem dX6_countBadHours_43 : decode cX6_countBadHours 43 = .ok (.iload 4, 2) := by decide +kernel
theorem dX6_countBadHours_45 : decode cX6_countBadHours 45 = .ok (.aaload, 1) := by decide +kernel
theorem dX6_countBadHours_46 : decode cX6_countBadHours 46 = .ok (.astore 5, 2) := by decide +kernel
theorem dX6_countBadHours_48 : decode cX6_countBadHours 48 = .ok (.aload 5, 2) := by decide +kernel
theorem dX6_countBadHours_50 : decode cX6_countBadHours 50 = .ok (.ifnull 22, 3) := by decide +kernel
theorem dX6_countBadHours_53 : decode cX6_countBadHours 53 = .ok (.iload_n 2, 1) := by decide +kernel
theorem dX6_countBadHours_54 : decode cX6_countBadHours 54 = .ok (.iload 4, 2) := by decide +kernel
theorem dX6_countBadHours_56 : decode cX6_countBadHours 56 = .ok (.invokestatic 178, 3) := by decide +kernel
theorem dX6_countBadHours_59 : decode cX6_countBadHours 59 = .ok (.ifCond .eq 13, 3) := by decide +kernel
theorem dX6_countBadHours_62 : decode cX6_countBadHours 62 = .ok (.iload_n 3, 1) := by decide +kernel
theorem dX6_countBadHours_63 : decode cX6_countBadHours 63 = .ok (.aload_n 0, 1) := by decide +kernel
theorem dX6_countBadHours_64 : decode cX6_countBadHours 64 = .ok (.aload_n 1, 1) := by decide +kernel
theorem dX6_countBadHours_65 : decode cX6_countBadHours 65 = .ok (.aload 5, 2) := by decide +kernel
theorem dX6_countBadHours_67 : decode cX6_countBadHours 67 = .ok (.invokevirtual 227, 3) := by decide +kernel
theorem dX6_countBadHours_70 : decode cX6_countBadHours 70 = .ok (.iadd, 1) := by decide +kernel
theorem dX6_countBadHours_71 : decode cX6_countBadHours 71 = .ok (.istore_n 3, 1) := by decide +kernel
theorem dX6_countBadHours_72 : decode cX6_countBadHours 72 = .ok (.iinc 4 1, 3) := by decide +kernel
theorem dX6_countBadHours_75 : decode cX6_countBadHours 75 = .ok (.goto (-43), 3) := by decide +kernel
theorem dX6_countBadHours_78 : decode cX6_countBadHours 78 = .ok (.iload_n 3, 1) := by decide +kernel
theorem dX6_countBadHours_79 : decode cX6_countBadHours 79 = .ok (.ireturn, 1) := by decide +kernel
theorem dX6_markBadHours_0 : decode cX6_markBadHours 0 = .ok (.iconst 0, 1) := by decide +kernel
theorem dX6_markBadHours_1 : decode cX6_markBadHours 1 = .ok (.istore_n 3, 1) := by decide +kernel
theorem dX6_markBadHours_2 : decode cX6_markBadHours 2 = .ok (.iconst 0, 1) := by decide +kernel
theorem dX6_markBadHours_3 : decode cX6_markBadHours 3 = .ok (.istore 4, 2) := by decide +kernel
theorem dX6_markBadHours_5 : decode cX6_markBadHours 5 = .ok (.iload 4, 2) := by decide +kernel
theorem dX6_markBadHours_7 : decode cX6_markBadHours 7 = .ok (.aload_n 1, 1) := by decide +kernel
theorem dX6_markBadHours_8 : decode cX6_markBadHours 8 = .ok (.getfield 127, 3) := by decide +kernel
theorem dX6_markBadHours_11 : decode cX6_markBadHours 11 = .ok (.if_icmp .ge 51, 3) := by decide +kernel
theorem dX6_markBadHours_14 : decode cX6_markBadHours 14 = .ok (.iload 4, 2) := by decide +kernel
theorem dX6_markBadHours_16 : decode cX6_markBadHours 16 = .ok (.bipush 100, 2) := by decide +kernel
theorem dX6_markBadHours_18 : decode cX6_markBadHours 18 = .ok (.if_icmp .ge 44, 3) := by decide +kernel
theorem dX6_markBadHours_21 : decode cX6_markBadHours 21 = .ok (.aload_n 0, 1) := by decide +kernel
theorem dX6_markBadHours_22 : decode cX6_markBadHours 22 = .ok (.getfield 34, 3) := by decide +kernel
theorem dX6_markBadHours_25 : decode cX6_markBadHours 25 = .ok (.iload 4, 2) := by decide +kernel
theorem dX6_markBadHours_27 : decode cX6_markBadHours 27 = .ok (.baload, 1) := by decide +kernel
theorem dX6_markBadHours_28 : decode cX6_markBadHours 28 = .ok (.ifCond .ne 28, 3) := by decide +kernel
theorem dX6_markBadHours_31 : decode cX6_markBadHours 31 = .ok (.aload_n 2, 1) := by decide +kernel
theorem dX6_markBadHours_32 : decode cX6_markBadHours 32 = .ok (.aload_n 1, 1) := by decide +kernel
theorem dX6_markBadHours_33 : decode cX6_markBadHours 33 = .ok (.getfield 134, 3) := by decide +kernel
theorem dX6_markBadHours_36 : decode cX6_markBadHours 36 = .ok (.iload 4, 2) := by decide +kernel
theorem dX6_markBadHours_38 : decode cX6_markBadHours 38 = .ok (.iadd, 1) := by decide +kernel
theorem dX6_markBadHours_39 : decode cX6_markBadHours 39 = .ok (.invokevirtual 114, 3) := by decide +kernel
theorem dX6_markBadHours_42 : decode cX6_markBadHours 42 = .ok (.ifCond .eq 14, 3) := by decide +kernel
theorem dX6_markBadHours_45 : decode cX6_markBadHours 45 = .ok (.aload_n 0, 1) := by decide +kernel
theorem dX6_markBadHours_46 : decode cX6_markBadHours 46 = .ok (.getfield 34, 3) := by decide +kernel
theorem dX6_markBadHours_49 : decode cX6_markBadHours 49 = .ok (.iload 4, 2) := by decide +kernel
theorem dX6_markBadHours_51 : decode cX6_markBadHours 51 = .ok (.iconst 1, 1) := by decide +kernel
theorem dX6_markBadHours_52 : decode cX6_markBadHours 52 = .ok (.bastore, 1) := by decide +kernel
theorem dX6_markBadHours_53 : decode cX6_markBadHours 53 = .ok (.iinc 3 1, 3) := by decide +kernel
theorem dX6_markBadHours_56 : decode cX6_markBadHours 56 = .ok (.iinc 4 1, 3) := by decide +kernel
theorem dX6_markBadHours_59 : decode cX6_markBadHours 59 = .ok (.goto (-54), 3) := by decide +kernel
theorem dX6_markBadHours_62 : decode cX6_markBadHours 62 = .ok (.iload_n 3, 1) := by decide +kernel
theorem dX6_markBadHours_63 : decode cX6_markBadHours 63 = .ok (.ireturn, 1) := by decide +kernel
theorem dX6_firstBadHour_0 : decode cX6_firstBadHour 0 = .ok (.aload_n 0, 1) := by decide +kernel
theorem dX6_firstBadHour_1 : decode cX6_firstBadHour 1 = .ok (.aload_n 1, 1) := by decide +kernel
theorem dX6_firstBadHour_2 : decode cX6_firstBadHour 2 = .ok (.invokevirtual 194, 3) := by decide +kernel
theorem dX6_firstBadHour_5 : decode cX6_firstBadHour 5 = .ok (.istore_n 2, 1) := by decide +kernel
theorem dX6_firstBadHour_6 : decode cX6_firstBadHour 6 = .ok (.aload_n 1, 1) := by decide +kernel
theorem dX6_firstBadHour_7 : decode cX6_firstBadHour 7 = .ok (.getfield 134, 3) := by decide +kernel
theorem dX6_firstBadHour_10 : decode cX6_firstBadHour 10 = .ok (.istore_n 3, 1) := by decide +kernel
theorem dX6_firstBadHour_11 : decode cX6_firstBadHour 11 = .ok (.iload_n 3, 1) := by decide +kernel
theorem dX6_firstBadHour_12 : decode cX6_firstBadHour 12 = .ok (.aload_n 1, 1) := by decide +kernel
theorem dX6_firstBadHour_13 : decode cX6_firstBadHour 13 = .ok (.invokevirtual 171, 3) := by decide +kernel
theorem dX6_firstBadHour_16 : decode cX6_firstBadHour 16 = .ok (.if_icmp .ge 20, 3) := by decide +kernel
theorem dX6_firstBadHour_19 : decode cX6_firstBadHour 19 = .ok (.aload_n 0, 1) := by decide +kernel
theorem dX6_firstBadHour_20 : decode cX6_firstBadHour 20 = .ok (.iload_n 2, 1) := by decide +kernel
theorem dX6_firstBadHour_21 : decode cX6_firstBadHour 21 = .ok (.iload_n 3, 1) := by decide +kernel
theorem dX6_firstBadHour_22 : decode cX6_firstBadHour 22 = .ok (.invokevirtual 110, 3) := by decide +kernel
theorem dX6_firstBadHour_25 : decode cX6_firstBadHour 25 = .ok (.ifCond .eq 5, 3) := by decide +kernel
theorem dX6_firstBadHour_28 : decode cX6_firstBadHour 28 = .ok (.iload_n 3, 1) := by decide +kernel
theorem dX6_firstBadHour_29 : decode cX6_firstBadHour 29 = .ok (.ireturn, 1) := by decide +kernel
theorem dX6_firstBadHour_30 : decode cX6_firstBadHour 30 = .ok (.iinc 3 1, 3) := by decide +kernel
theorem dX6_firstBadHour_33 : decode cX6_firstBadHour 33 = .ok (.goto (-22), 3) := by decide +kernel
theorem dX6_firstBadHour_36 : decode cX6_firstBadHour 36 = .ok (.iconst (-1), 1) := by decide +kernel
theorem dX6_firstBadHour_37 : decode cX6_firstBadHour 37 = .ok (.ireturn, 1) := by decide +kernel
theorem dX6_rankToSpend_0 : decode cX6_rankToSpend 0 = .ok (.iload_n 1, 1) := by decide +kernel
theorem dX6_rankToSpend_1 : decode cX6_rankToSpend 1 = .ok (.istore_n 2, 1) := by decide +kernel
theorem dX6_rankToSpend_2 : decode cX6_rankToSpend 2 = .ok (.iload_n 2, 1) := by decide +kernel
theorem dX6_rankToSpend_3 : decode cX6_rankToSpend 3 = .ok (.iconst 3, 1) := by decide +kernel
theorem dX6_rankToSpend_4 : decode cX6_rankToSpend 4 = .ok (.if_icmp .gt 20, 3) := by decide +kernel
theorem dX6_rankToSpend_7 : decode cX6_rankToSpend 7 = .ok (.aload_n 0, 1) := by decide +kernel
theorem dX6_rankToSpend_8 : decode cX6_rankToSpend 8 = .ok (.getfield 31, 3) := by decide +kernel
theorem dX6_rankToSpend_11 : decode cX6_rankToSpend 11 = .ok (.iload_n 2, 1) := by decide +kernel
theorem dX6_rankToSpend_12 : decode cX6_rankToSpend 12 = .ok (.iaload, 1) := by decide +kernel
theorem dX6_rankToSpend_13 : decode cX6_rankToSpend 13 = .ok (.ifCond .le 5, 3) := by decide +kernel
theorem dX6_rankToSpend_16 : decode cX6_rankToSpend 16 = .ok (.iload_n 2, 1) := by decide +kernel
theorem dX6_rankToSpend_17 : decode cX6_rankToSpend 17 = .ok (.ireturn, 1) := by decide +kernel
theorem dX6_rankToSpend_18 : decode cX6_rankToSpend 18 = .ok (.iinc 2 1, 3) := by decide +kernel
theorem dX6_rankToSpend_21 : decode cX6_rankToSpend 21 = .ok (.goto (-19), 3) := by decide +kernel
theorem dX6_rankToSpend_24 : decode cX6_rankToSpend 24 = .ok (.iconst (-1), 1) := by decide +kernel
theorem dX6_rankToSpend_25 : decode cX6_rankToSpend 25 = .ok (.ireturn, 1) := by decide +kernel
theorem dJ9_floorDiv_7cf53_0 : decode cJ9_floorDiv_7cf53 0 = .ok (.iload_n 0, 1) := by decide +kernel
theorem dJ9_floorDiv_7cf53_1 : decode cJ9_floorDiv_7cf53 1 = .ok (.iload_n 1, 1) := by decide +kernel
theorem dJ9_floorDiv_7cf53_2 : decode cJ9_floorDiv_7cf53 2 = .ok (.idiv, 1) := by decide +kernel
theorem dJ9_floorDiv_7cf53_3 : decode cJ9_floorDiv_7cf53 3 = .ok (.istore_n 2, 1) := by decide +kernel
theorem dJ9_floorDiv_7cf53_4 : decode cJ9_floorDiv_7cf53 4 = .ok (.iload_n 0, 1) := by decide +kernel
theorem dJ9_floorDiv_7cf53_5 : decode cJ9_floorDiv_7cf53 5 = .ok (.iload_n 1, 1) := by decide +kernel
theorem dJ9_floorDiv_7cf53_6 : decode cJ9_floorDiv_7cf53 6 = .ok (.ixor, 1) := by decide +kernel
theorem dJ9_floorDiv_7cf53_7 : decode cJ9_floorDiv_7cf53 7 = .ok (.ifCond .ge 14, 3) := by decide +kernel
theorem dJ9_floorDiv_7cf53_10 : decode cJ9_floorDiv_7cf53 10 = .ok (.iload_n 2, 1) := by decide +kernel
theorem dJ9_floorDiv_7cf53_11 : decode cJ9_floorDiv_7cf53 11 = .ok (.iload_n 1, 1) := by decide +kernel
theorem dJ9_floorDiv_7cf53_12 : decode cJ9_floorDiv_7cf53 12 = .ok (.imul, 1) := by decide +kernel
theorem dJ9_floorDiv_7cf53_13 : decode cJ9_floorDiv_7cf53 13 = .ok (.iload_n 0, 1) := by decide +kernel
theorem dJ9_floorDiv_7cf53_14 : decode cJ9_floorDiv_7cf53 14 = .ok (.if_icmp .eq 7, 3) := by decide +kernel
theorem dJ9_floorDiv_7cf53_17 : decode cJ9_floorDiv_7cf53 17 = .ok (.iload_n 2, 1) := by decide +kernel
theorem dJ9_floorDiv_7cf53_18 : decode cJ9_floorDiv_7cf53 18 = .ok (.iconst 1, 1) := by decide +kernel
theorem dJ9_floorDiv_7cf53_19 : decode cJ9_floorDiv_7cf53 19 = .ok (.isub, 1) := by decide +kernel
theorem dJ9_floorDiv_7cf53_20 : decode cJ9_floorDiv_7cf53 20 = .ok (.ireturn, 1) := by decide +kernel
theorem dJ9_floorDiv_7cf53_21 : decode cJ9_floorDiv_7cf53 21 = .ok (.iload_n 2, 1) := by decide +kernel
theorem dJ9_floorDiv_7cf53_22 : decode cJ9_floorDiv_7cf53 22 = .ok (.ireturn, 1) := by decide +kernel
theorem dJ9_floorMod_7cf53_0 : decode cJ9_floorMod_7cf53 0 = .ok (.iload_n 0, 1) := by decide +kernel
theorem dJ9_floorMod_7cf53_1 : decode cJ9_floorMod_7cf53 1 = .ok (.iload_n 1, 1) := by decide +kernel
theorem dJ9_floorMod_7cf53_2 : decode cJ9_floorMod_7cf53 2 = .ok (.irem, 1) := by decide +kernel
theorem dJ9_floorMod_7cf53_3 : decode cJ9_floorMod_7cf53 3 = .ok (.istore_n 2, 1) := by decide +kernel
theorem dJ9_floorMod_7cf53_4 : decode cJ9_floorMod_7cf53 4 = .ok (.iload_n 0, 1) := by decide +kernel
theorem dJ9_floorMod_7cf53_5 : decode cJ9_floorMod_7cf53 5 = .ok (.iload_n 1, 1) := by decide +kernel
theorem dJ9_floorMod_7cf53_6 : decode cJ9_floorMod_7cf53 6 = .ok (.ixor, 1) := by decide +kernel
theorem dJ9_floorMod_7cf53_7 : decode cJ9_floorMod_7cf53 7 = .ok (.ifCond .ge 11, 3) := by decide +kernel
theorem dJ9_floorMod_7cf53_10 : decode cJ9_floorMod_7cf53 10 = .ok (.iload_n 2, 1) := by decide +kernel
theorem dJ9_floorMod_7cf53_11 : decode cJ9_floorMod_7cf53 11 = .ok (.ifCond .eq 7, 3) := by decide +kernel
theorem dJ9_floorMod_7cf53_14 : decode cJ9_floorMod_7cf53 14 = .ok (.iload_n 2, 1) := by decide +kernel
theorem dJ9_floorMod_7cf53_15 : decode cJ9_floorMod_7cf53 15 = .ok (.iload_n 1, 1) := by decide +kernel
theorem dJ9_floorMod_7cf53_16 : decode cJ9_floorMod_7cf53 16 = .ok (.iadd, 1) := by decide +kernel
theorem dJ9_floorMod_7cf53_17 : decode cJ9_floorMod_7cf53 17 = .ok (.ireturn, 1) := by decide +kernel
theorem dJ9_floorMod_7cf53_18 : decode cJ9_floorMod_7cf53 18 = .ok (.iload_n 2, 1) := by decide +kernel
theorem dJ9_floorMod_7cf53_19 : decode cJ9_floorMod_7cf53 19 = .ok (.ireturn, 1) := by decide +kernel
theorem dL_cell_0 : decode cL_cell 0 = .ok (.iload_n 1, 1) := by decide +kernel
theorem dL_cell_1 : decode cL_cell 1 = .ok (.aload_n 0, 1) := by decide +kernel
theorem dL_cell_2 : decode cL_cell 2 = .ok (.arraylength, 1) := by decide +kernel
theorem dL_cell_3 : decode cL_cell 3 = .ok (.if_icmp .ge 9, 3) := by decide +kernel
theorem dL_cell_6 : decode cL_cell 6 = .ok (.aload_n 0, 1) := by decide +kernel
theorem dL_cell_7 : decode cL_cell 7 = .ok (.iload_n 1, 1) := by decide +kernel
theorem dL_cell_8 : decode cL_cell 8 = .ok (.iaload, 1) := by decide +kernel
theorem dL_cell_9 : decode cL_cell 9 = .ok (.goto 12, 3) := by decide +kernel
theorem dL_cell_12 : decode cL_cell 12 = .ok (.ldc 7, 2) := by decide +kernel
theorem dL_cell_14 : decode cL_cell 14 = .ok (.iload_n 1, 1) := by decide +kernel
theorem dL_cell_15 : decode cL_cell 15 = .ok (.iconst 1, 1) := by decide +kernel
theorem dL_cell_16 : decode cL_cell 16 = .ok (.iadd, 1) := by decide +kernel
theorem dL_cell_17 : decode cL_cell 17 = .ok (.imul, 1) := by decide +kernel
theorem dL_cell_18 : decode cL_cell 18 = .ok (.ldc 8, 2) := by decide +kernel
theorem dL_cell_20 : decode cL_cell 20 = .ok (.iadd, 1) := by decide +kernel
theorem dL_cell_21 : decode cL_cell 21 = .ok (.ireturn, 1) := by decide +kernel
theorem dL_low_0 : decode cL_low 0 = .ok (.iload_n 0, 1) := by decide +kernel
theorem dL_low_1 : decode cL_low 1 = .ok (.ldc 9, 2) := by decide +kernel
theorem dL_low_3 : decode cL_low 3 = .ok (.iand, 1) := by decide +kernel
theorem dL_low_4 : decode cL_low 4 = .ok (.iload_n 1, 1) := by decide +kernel
theorem dL_low_5 : decode cL_low 5 = .ok (.irem, 1) := by decide +kernel
theorem dL_low_6 : decode cL_low 6 = .ok (.ireturn, 1) := by decide +kernel
theorem dL_holds_0 : decode cL_holds 0 = .ok (.bipush 7, 2) := by decide +kernel
theorem dL_holds_2 : decode cL_holds 2 = .ok (.iload_n 1, 1) := by decide +kernel
theorem dL_holds_3 : decode cL_holds 3 = .ok (.imul, 1) := by decide +kernel
theorem dL_holds_4 : decode cL_holds 4 = .ok (.istore 5, 2) := by decide +kernel
theorem dL_holds_6 : decode cL_holds 6 = .ok (.aload_n 0, 1) := by decide +kernel
theorem dL_holds_7 : decode cL_holds 7 = .ok (.iload 5, 2) := by decide +kernel
theorem dL_holds_9 : decode cL_holds 9 = .ok (.iconst 1, 1) := by decide +kernel
theorem dL_holds_10 : decode cL_holds 10 = .ok (.iadd, 1) := by decide +kernel
theorem dL_holds_11 : decode cL_holds 11 = .ok (.iaload, 1) := by decide +kernel
theorem dL_holds_12 : decode cL_holds 12 = .ok (.ifCond .ne 29, 3) := by decide +kernel
theorem dL_holds_15 : decode cL_holds 15 = .ok (.iload_n 2, 1) := by decide +kernel
theorem dL_holds_16 : decode cL_holds 16 = .ok (.aload_n 0, 1) := by decide +kernel
theorem dL_holds_17 : decode cL_holds 17 = .ok (.iload 5, 2) := by decide +kernel
theorem dL_holds_19 : decode cL_holds 19 = .ok (.iconst 4, 1) := by decide +kernel
theorem dL_holds_20 : decode cL_holds 20 = .ok (.iadd, 1) := by decide +kernel
theorem dL_holds_21 : decode cL_holds 21 = .ok (.iaload, 1) := by decide +kernel
theorem dL_holds_22 : decode cL_holds 22 = .ok (.if_icmp .lt 17, 3) := by decide +kernel
theorem dL_holds_25 : decode cL_holds 25 = .ok (.iload_n 2, 1) := by decide +kernel
theorem dL_holds_26 : decode cL_holds 26 = .ok (.aload_n 0, 1) := by decide +kernel
theorem dL_holds_27 : decode cL_holds 27 = .ok (.iload 5, 2) := by decide +kernel
theorem dL_holds_29 : decode cL_holds 29 = .ok (.iconst 5, 1) := by decide +kernel
theorem dL_holds_30 : decode cL_holds 30 = .ok (.iadd, 1) := by decide +kernel
theorem dL_holds_31 : decode cL_holds 31 = .ok (.iaload, 1) := by decide +kernel
theorem dL_holds_32 : decode cL_holds 32 = .ok (.if_icmp .ge 7, 3) := by decide +kernel
theorem dL_holds_35 : decode cL_holds 35 = .ok (.iconst 1, 1) := by decide +kernel
theorem dL_holds_36 : decode cL_holds 36 = .ok (.goto 4, 3) := by decide +kernel
theorem dL_holds_39 : decode cL_holds 39 = .ok (.iconst 0, 1) := by decide +kernel
theorem dL_holds_40 : decode cL_holds 40 = .ok (.ireturn, 1) := by decide +kernel
theorem dL_holds_41 : decode cL_holds 41 = .ok (.iload_n 2, 1) := by decide +kernel
theorem dL_holds_42 : decode cL_holds 42 = .ok (.aload_n 3, 1) := by decide +kernel
theorem dL_holds_43 : decode cL_holds 43 = .ok (.aload_n 0, 1) := by decide +kernel
theorem dL_holds_44 : decode cL_holds 44 = .ok (.iload 5, 2) := by decide +kernel
theorem dL_holds_46 : decode cL_holds 46 = .ok (.iconst 3, 1) := by decide +kernel
theorem dL_holds_47 : decode cL_holds 47 = .ok (.iadd, 1) := by decide +kernel
theorem dL_holds_48 : decode cL_holds 48 = .ok (.iaload, 1) := by decide +kernel
theorem dL_holds_49 : decode cL_holds 49 = .ok (.iaload, 1) := by decide +kernel
theorem dL_holds_50 : decode cL_holds 50 = .ok (.iadd, 1) := by decide +kernel
theorem dL_holds_51 : decode cL_holds 51 = .ok (.bipush 24, 2) := by decide +kernel
theorem dL_holds_53 : decode cL_holds 53 = .ok (.iadd, 1) := by decide +kernel
theorem dL_holds_54 : decode cL_holds 54 = .ok (.istore 6, 2) := by decide +kernel
theorem dL_holds_56 : decode cL_holds 56 = .ok (.aload_n 0, 1) := by decide +kernel
theorem dL_holds_57 : decode cL_holds 57 = .ok (.iload 5, 2) := by decide +kernel
theorem dL_holds_59 : decode cL_holds 59 = .ok (.iconst 1, 1) := by decide +kernel
theorem dL_holds_60 : decode cL_holds 60 = .ok (.iadd, 1) := by decide +kernel
theorem dL_holds_61 : decode cL_holds 61 = .ok (.iaload, 1) := by decide +kernel
theorem dL_holds_62 : decode cL_holds 62 = .ok (.iconst 2, 1) := by decide +kernel
theorem dL_holds_63 : decode cL_holds 63 = .ok (.if_icmp .ne 30, 3) := by decide +kernel
theorem dL_holds_66 : decode cL_holds 66 = .ok (.aload 4, 2) := by decide +kernel
theorem dL_holds_68 : decode cL_holds 68 = .ok (.aload_n 0, 1) := by decide +kernel
theorem dL_holds_69 : decode cL_holds 69 = .ok (.iload 5, 2) := by decide +kernel
theorem dL_holds_71 : decode cL_holds 71 = .ok (.iconst 3, 1) := by decide +kernel
theorem dL_holds_72 : decode cL_holds 72 = .ok (.iadd, 1) := by decide +kernel
theorem dL_holds_73 : decode cL_holds 73 = .ok (.iaload, 1) := by decide +kernel
theorem dL_holds_74 : decode cL_holds 74 = .ok (.iaload, 1) := by decide +kernel
theorem dL_holds_75 : decode cL_holds 75 = .ok (.iload 6, 2) := by decide +kernel
theorem dL_holds_77 : decode cL_holds 77 = .ok (.bipush 24, 2) := by decide +kernel
theorem dL_holds_79 : decode cL_holds 79 = .ok (.idiv, 1) := by decide +kernel
theorem dL_holds_80 : decode cL_holds 80 = .ok (.ishr, 1) := by decide +kernel
theorem dL_holds_81 : decode cL_holds 81 = .ok (.iconst 1, 1) := by decide +kernel
theorem dL_holds_82 : decode cL_holds 82 = .ok (.iand, 1) := by decide +kernel
theorem dL_holds_83 : decode cL_holds 83 = .ok (.iconst 1, 1) := by decide +kernel
theorem dL_holds_84 : decode cL_holds 84 = .ok (.if_icmp .ne 7, 3) := by decide +kernel
theorem dL_holds_87 : decode cL_holds 87 = .ok (.iconst 1, 1) := by decide +kernel
theorem dL_holds_88 : decode cL_holds 88 = .ok (.goto 4, 3) := by decide +kernel
theorem dL_holds_91 : decode cL_holds 91 = .ok (.iconst 0, 1) := by decide +kernel
theorem dL_holds_92 : decode cL_holds 92 = .ok (.ireturn, 1) := by decide +kernel
theorem dL_holds_93 : decode cL_holds 93 = .ok (.aload_n 0, 1) := by decide +kernel
theorem dL_holds_94 : decode cL_holds 94 = .ok (.iload 5, 2) := by decide +kernel
theorem dL_holds_96 : decode cL_holds 96 = .ok (.iconst 4, 1) := by decide +kernel
theorem dL_holds_97 : decode cL_holds 97 = .ok (.iadd, 1) := by decide +kernel
theorem dL_holds_98 : decode cL_holds 98 = .ok (.iaload, 1) := by decide +kernel
theorem dL_holds_99 : decode cL_holds 99 = .ok (.istore 7, 2) := by decide +kernel
theorem dL_holds_101 : decode cL_holds 101 = .ok (.aload_n 0, 1) := by decide +kernel
theorem dL_holds_102 : decode cL_holds 102 = .ok (.iload 5, 2) := by decide +kernel
theorem dL_holds_104 : decode cL_holds 104 = .ok (.iconst 5, 1) := by decide +kernel
theorem dL_holds_105 : decode cL_holds 105 = .ok (.iadd, 1) := by decide +kernel
theorem dL_holds_106 : decode cL_holds 106 = .ok (.iaload, 1) := by decide +kernel
theorem dL_holds_107 : decode cL_holds 107 = .ok (.iload 7, 2) := by decide +kernel
theorem dL_holds_109 : decode cL_holds 109 = .ok (.isub, 1) := by decide +kernel
theorem dL_holds_110 : decode cL_holds 110 = .ok (.bipush 23, 2) := by decide +kernel
theorem dL_holds_112 : decode cL_holds 112 = .ok (.iadd, 1) := by decide +kernel
theorem dL_holds_113 : decode cL_holds 113 = .ok (.bipush 24, 2) := by decide +kernel
theorem dL_holds_115 : decode cL_holds 115 = .ok (.irem, 1) := by decide +kernel
theorem dL_holds_116 : decode cL_holds 116 = .ok (.iconst 1, 1) := by decide +kernel
theorem dL_holds_117 : decode cL_holds 117 = .ok (.iadd, 1) := by decide +kernel
theorem dL_holds_118 : decode cL_holds 118 = .ok (.istore 8, 2) := by decide +kernel
theorem dL_holds_120 : decode cL_holds 120 = .ok (.iload 6, 2) := by decide +kernel
theorem dL_holds_122 : decode cL_holds 122 = .ok (.iload 7, 2) := by decide +kernel
theorem dL_holds_124 : decode cL_holds 124 = .ok (.isub, 1) := by decide +kernel
theorem dL_holds_125 : decode cL_holds 125 = .ok (.bipush 24, 2) := by decide +kernel
theorem dL_holds_127 : decode cL_holds 127 = .ok (.iadd, 1) := by decide +kernel
theorem dL_holds_128 : decode cL_holds 128 = .ok (.bipush 24, 2) := by decide +kernel
theorem dL_holds_130 : decode cL_holds 130 = .ok (.irem, 1) := by decide +kernel
theorem dL_holds_131 : decode cL_holds 131 = .ok (.iload 8, 2) := by decide +kernel
theorem dL_holds_133 : decode cL_holds 133 = .ok (.if_icmp .ge 7, 3) := by decide +kernel
theorem dL_holds_136 : decode cL_holds 136 = .ok (.iconst 1, 1) := by decide +kernel
theorem dL_holds_137 : decode cL_holds 137 = .ok (.goto 4, 3) := by decide +kernel
theorem dL_holds_140 : decode cL_holds 140 = .ok (.iconst 0, 1) := by decide +kernel
theorem dL_holds_141 : decode cL_holds 141 = .ok (.ireturn, 1) := by decide +kernel
theorem dL_touches_0 : decode cL_touches 0 = .ok (.aload_n 2, 1) := by decide +kernel
theorem dL_touches_1 : decode cL_touches 1 = .ok (.iload_n 0, 1) := by decide +kernel
theorem dL_touches_2 : decode cL_touches 2 = .ok (.iaload, 1) := by decide +kernel
theorem dL_touches_3 : decode cL_touches 3 = .ok (.iload_n 1, 1) := by decide +kernel
theorem dL_touches_4 : decode cL_touches 4 = .ok (.ishr, 1) := by decide +kernel
theorem dL_touches_5 : decode cL_touches 5 = .ok (.iconst 1, 1) := by decide +kernel
theorem dL_touches_6 : decode cL_touches 6 = .ok (.iand, 1) := by decide +kernel
theorem dL_touches_7 : decode cL_touches 7 = .ok (.iconst 1, 1) := by decide +kernel
theorem dL_touches_8 : decode cL_touches 8 = .ok (.if_icmp .eq 14, 3) := by decide +kernel
theorem dL_touches_11 : decode cL_touches 11 = .ok (.aload_n 2, 1) := by decide +kernel
theorem dL_touches_12 : decode cL_touches 12 = .ok (.iload_n 1, 1) := by decide +kernel
theorem dL_touches_13 : decode cL_touches 13 = .ok (.iaload, 1) := by decide +kernel
theorem dL_touches_14 : decode cL_touches 14 = .ok (.iload_n 0, 1) := by decide +kernel
theorem dL_touches_15 : decode cL_touches 15 = .ok (.ishr, 1) := by decide +kernel
theorem dL_touches_16 : decode cL_touches 16 = .ok (.iconst 1, 1) := by decide +kernel
theorem dL_touches_17 : decode cL_touches 17 = .ok (.iand, 1) := by decide +kernel
theorem dL_touches_18 : decode cL_touches 18 = .ok (.iconst 1, 1) := by decide +kernel
theorem dL_touches_19 : decode cL_touches 19 = .ok (.if_icmp .ne 7, 3) := by decide +kernel
theorem dL_touches_22 : decode cL_touches 22 = .ok (.iconst 1, 1) := by decide +kernel
theorem dL_touches_23 : decode cL_touches 23 = .ok (.goto 4, 3) := by decide +kernel
theorem dL_touches_26 : decode cL_touches 26 = .ok (.iconst 0, 1) := by decide +kernel
theorem dL_touches_27 : decode cL_touches 27 = .ok (.ireturn, 1) := by decide +kernel
theorem dL_against_0 : decode cL_against 0 = .ok (.bipush 7, 2) := by decide +kernel
theorem dL_against_2 : decode cL_against 2 = .ok (.iload_n 3, 1) := by decide +kernel
theorem dL_against_3 : decode cL_against 3 = .ok (.imul, 1) := by decide +kernel
theorem dL_against_4 : decode cL_against 4 = .ok (.istore 5, 2) := by decide +kernel
theorem dL_against_6 : decode cL_against 6 = .ok (.aload_n 0, 1) := by decide +kernel
theorem dL_against_7 : decode cL_against 7 = .ok (.bipush 7, 2) := by decide +kernel
theorem dL_against_9 : decode cL_against 9 = .ok (.iload_n 1, 1) := by decide +kernel
theorem dL_against_10 : decode cL_against 10 = .ok (.imul, 1) := by decide +kernel
theorem dL_against_11 : decode cL_against 11 = .ok (.iaload, 1) := by decide +kernel
theorem dL_against_12 : decode cL_against 12 = .ok (.iconst 1, 1) := by decide +kernel
theorem dL_against_13 : decode cL_against 13 = .ok (.if_icmp .ne 61, 3) := by decide +kernel
theorem dL_against_16 : decode cL_against 16 = .ok (.aload_n 2, 1) := by decide +kernel
theorem dL_against_17 : decode cL_against 17 = .ok (.iload 5, 2) := by decide +kernel
theorem dL_against_19 : decode cL_against 19 = .ok (.bipush 6, 2) := by decide +kernel
theorem dL_against_21 : decode cL_against 21 = .ok (.iadd, 1) := by decide +kernel
theorem dL_against_22 : decode cL_against 22 = .ok (.iaload, 1) := by decide +kernel
theorem dL_against_23 : decode cL_against 23 = .ok (.ifCond .lt 14, 3) := by decide +kernel
theorem dL_against_26 : decode cL_against 26 = .ok (.iload_n 1, 1) := by decide +kernel
theorem dL_against_27 : decode cL_against 27 = .ok (.aload_n 2, 1) := by decide +kernel
theorem dL_against_28 : decode cL_against 28 = .ok (.iload 5, 2) := by decide +kernel
theorem dL_against_30 : decode cL_against 30 = .ok (.bipush 6, 2) := by decide +kernel
theorem dL_against_32 : decode cL_against 32 = .ok (.iadd, 1) := by decide +kernel
theorem dL_against_33 : decode cL_against 33 = .ok (.iaload, 1) := by decide +kernel
theorem dL_against_34 : decode cL_against 34 = .ok (.if_icmp .ge 40, 3) := by decide +kernel
theorem dL_against_37 : decode cL_against 37 = .ok (.aload_n 0, 1) := by decide +kernel
theorem dL_against_38 : decode cL_against 38 = .ok (.bipush 7, 2) := by decide +kernel
theorem dL_against_40 : decode cL_against 40 = .ok (.iload_n 1, 1) := by decide +kernel
theorem dL_against_41 : decode cL_against 41 = .ok (.imul, 1) := by decide +kernel
theorem dL_against_42 : decode cL_against 42 = .ok (.iconst 2, 1) := by decide +kernel
theorem dL_against_43 : decode cL_against 43 = .ok (.iadd, 1) := by decide +kernel
theorem dL_against_44 : decode cL_against 44 = .ok (.iaload, 1) := by decide +kernel
theorem dL_against_45 : decode cL_against 45 = .ok (.aload_n 2, 1) := by decide +kernel
theorem dL_against_46 : decode cL_against 46 = .ok (.iload 5, 2) := by decide +kernel
theorem dL_against_48 : decode cL_against 48 = .ok (.iaload, 1) := by decide +kernel
theorem dL_against_49 : decode cL_against 49 = .ok (.aload 4, 2) := by decide +kernel
theorem dL_against_51 : decode cL_against 51 = .ok (.invokestatic 10, 3) := by decide +kernel
theorem dL_against_54 : decode cL_against 54 = .ok (.ifCond .eq 20, 3) := by decide +kernel
theorem dL_against_57 : decode cL_against 57 = .ok (.aload_n 2, 1) := by decide +kernel
theorem dL_against_58 : decode cL_against 58 = .ok (.iload 5, 2) := by decide +kernel
theorem dL_against_60 : decode cL_against 60 = .ok (.iconst 5, 1) := by decide +kernel
theorem dL_against_61 : decode cL_against 61 = .ok (.iadd, 1) := by decide +kernel
theorem dL_against_62 : decode cL_against 62 = .ok (.iaload, 1) := by decide +kernel
theorem dL_against_63 : decode cL_against 63 = .ok (.iload_n 1, 1) := by decide +kernel
theorem dL_against_64 : decode cL_against 64 = .ok (.ishr, 1) := by decide +kernel
theorem dL_against_65 : decode cL_against 65 = .ok (.iconst 1, 1) := by decide +kernel
theorem dL_against_66 : decode cL_against 66 = .ok (.iand, 1) := by decide +kernel
theorem dL_against_67 : decode cL_against 67 = .ok (.ifCond .ne 7, 3) := by decide +kernel
theorem dL_against_70 : decode cL_against 70 = .ok (.iconst 1, 1) := by decide +kernel
theorem dL_against_71 : decode cL_against 71 = .ok (.goto 4, 3) := by decide +kernel
theorem dL_against_74 : decode cL_against 74 = .ok (.iconst 0, 1) := by decide +kernel
theorem dL_against_75 : decode cL_against 75 = .ok (.ireturn, 1) := by decide +kernel
theorem dL_bad_0 : decode cL_bad 0 = .ok (.iconst 0, 1) := by decide +kernel
theorem dL_bad_1 : decode cL_bad 1 = .ok (.istore 7, 2) := by decide +kernel
theorem dL_bad_3 : decode cL_bad 3 = .ok (.aload_n 1, 1) := by decide +kernel
theorem dL_bad_4 : decode cL_bad 4 = .ok (.bipush 7, 2) := by decide +kernel
theorem dL_bad_6 : decode cL_bad 6 = .ok (.iload_n 2, 1) := by decide +kernel
theorem dL_bad_7 : decode cL_bad 7 = .ok (.imul, 1) := by decide +kernel
theorem dL_bad_8 : decode cL_bad 8 = .ok (.iconst 1, 1) := by decide +kernel
theorem dL_bad_9 : decode cL_bad 9 = .ok (.iadd, 1) := by decide +kernel
theorem dL_bad_10 : decode cL_bad 10 = .ok (.iaload, 1) := by decide +kernel
theorem dL_bad_11 : decode cL_bad 11 = .ok (.istore 8, 2) := by decide +kernel
