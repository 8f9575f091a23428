theorem dX7_init_0 : decode cX7_init 0 = .ok (.aload_n 0, 1) := by decide +kernel
theorem dX7_init_1 : decode cX7_init 1 = .ok (.invokespecial 1, 3) := by decide +kernel
theorem dX7_init_4 : decode cX7_init 4 = .ok (.aload_n 0, 1) := by decide +kernel
theorem dX7_init_5 : decode cX7_init 5 = .ok (.sipush 366, 3) := by decide +kernel
theorem dX7_init_8 : decode cX7_init 8 = .ok (.newarray .int, 2) := by decide +kernel
theorem dX7_init_10 : decode cX7_init 10 = .ok (.putfield 7, 3) := by decide +kernel
theorem dX7_init_13 : decode cX7_init 13 = .ok (.aload_n 0, 1) := by decide +kernel
theorem dX7_init_14 : decode cX7_init 14 = .ok (.sipush 1464, 3) := by decide +kernel
theorem dX7_init_17 : decode cX7_init 17 = .ok (.newarray .int, 2) := by decide +kernel
theorem dX7_init_19 : decode cX7_init 19 = .ok (.putfield 13, 3) := by decide +kernel
theorem dX7_init_22 : decode cX7_init 22 = .ok (.aload_n 0, 1) := by decide +kernel
theorem dX7_init_23 : decode cX7_init 23 = .ok (.sipush 366, 3) := by decide +kernel
theorem dX7_init_26 : decode cX7_init 26 = .ok (.newarray .int, 2) := by decide +kernel
theorem dX7_init_28 : decode cX7_init 28 = .ok (.putfield 16, 3) := by decide +kernel
theorem dX7_init_31 : decode cX7_init 31 = .ok (.aload_n 0, 1) := by decide +kernel
theorem dX7_init_32 : decode cX7_init 32 = .ok (.bipush 100, 2) := by decide +kernel
theorem dX7_init_34 : decode cX7_init 34 = .ok (.newarray .int, 2) := by decide +kernel
theorem dX7_init_36 : decode cX7_init 36 = .ok (.putfield 19, 3) := by decide +kernel
theorem dX7_init_39 : decode cX7_init 39 = .ok (.aload_n 0, 1) := by decide +kernel
theorem dX7_init_40 : decode cX7_init 40 = .ok (.bipush 19, 2) := by decide +kernel
theorem dX7_init_42 : decode cX7_init 42 = .ok (.newarray .int, 2) := by decide +kernel
theorem dX7_init_44 : decode cX7_init 44 = .ok (.putfield 22, 3) := by decide +kernel
theorem dX7_init_47 : decode cX7_init 47 = .ok (.aload_n 0, 1) := by decide +kernel
theorem dX7_init_48 : decode cX7_init 48 = .ok (.bipush 19, 2) := by decide +kernel
theorem dX7_init_50 : decode cX7_init 50 = .ok (.newarray .int, 2) := by decide +kernel
theorem dX7_init_52 : decode cX7_init 52 = .ok (.putfield 25, 3) := by decide +kernel
theorem dX7_init_55 : decode cX7_init 55 = .ok (.aload_n 0, 1) := by decide +kernel
theorem dX7_init_56 : decode cX7_init 56 = .ok (.getfield 7, 3) := by decide +kernel
theorem dX7_init_59 : decode cX7_init 59 = .ok (.bipush 9, 2) := by decide +kernel
theorem dX7_init_61 : decode cX7_init 61 = .ok (.bipush 100, 2) := by decide +kernel
theorem dX7_init_63 : decode cX7_init 63 = .ok (.iastore, 1) := by decide +kernel
theorem dX7_init_64 : decode cX7_init 64 = .ok (.aload_n 0, 1) := by decide +kernel
theorem dX7_init_65 : decode cX7_init 65 = .ok (.getfield 7, 3) := by decide +kernel
theorem dX7_init_68 : decode cX7_init 68 = .ok (.bipush 10, 2) := by decide +kernel
theorem dX7_init_70 : decode cX7_init 70 = .ok (.bipush 20, 2) := by decide +kernel
theorem dX7_init_72 : decode cX7_init 72 = .ok (.iastore, 1) := by decide +kernel
theorem dX7_init_73 : decode cX7_init 73 = .ok (.aload_n 0, 1) := by decide +kernel
theorem dX7_init_74 : decode cX7_init 74 = .ok (.getfield 7, 3) := by decide +kernel
theorem dX7_init_77 : decode cX7_init 77 = .ok (.bipush 11, 2) := by decide +kernel
theorem dX7_init_79 : decode cX7_init 79 = .ok (.bipush 50, 2) := by decide +kernel
theorem dX7_init_81 : decode cX7_init 81 = .ok (.iastore, 1) := by decide +kernel
theorem dX7_init_82 : decode cX7_init 82 = .ok (.aload_n 0, 1) := by decide +kernel
theorem dX7_init_83 : decode cX7_init 83 = .ok (.getfield 7, 3) := by decide +kernel
theorem dX7_init_86 : decode cX7_init 86 = .ok (.bipush 12, 2) := by decide +kernel
theorem dX7_init_88 : decode cX7_init 88 = .ok (.sipush 300, 3) := by decide +kernel
theorem dX7_init_91 : decode cX7_init 91 = .ok (.iastore, 1) := by decide +kernel
theorem dX7_init_92 : decode cX7_init 92 = .ok (.return_, 1) := by decide +kernel
theorem dX7_thrown_0 : decode cX7_thrown 0 = .ok (.aload_n 0, 1) := by decide +kernel
theorem dX7_thrown_1 : decode cX7_thrown 1 = .ok (.getfield 28, 3) := by decide +kernel
theorem dX7_thrown_4 : decode cX7_thrown 4 = .ok (.ireturn, 1) := by decide +kernel
theorem dX7_refused_0 : decode cX7_refused 0 = .ok (.aload_n 0, 1) := by decide +kernel
theorem dX7_refused_1 : decode cX7_refused 1 = .ok (.iload_n 1, 1) := by decide +kernel
theorem dX7_refused_2 : decode cX7_refused 2 = .ok (.putfield 28, 3) := by decide +kernel
theorem dX7_refused_5 : decode cX7_refused 5 = .ok (.iload_n 1, 1) := by decide +kernel
theorem dX7_refused_6 : decode cX7_refused 6 = .ok (.ifCond .le 7, 3) := by decide +kernel
theorem dX7_refused_9 : decode cX7_refused 9 = .ok (.iconst 1, 1) := by decide +kernel
theorem dX7_refused_10 : decode cX7_refused 10 = .ok (.goto 4, 3) := by decide +kernel
theorem dX7_refused_13 : decode cX7_refused 13 = .ok (.iconst 0, 1) := by decide +kernel
theorem dX7_refused_14 : decode cX7_refused 14 = .ok (.ireturn, 1) := by decide +kernel
theorem dX7_in_0 : decode cX7_in 0 = .ok (.iload_n 0, 1) := by decide +kernel
theorem dX7_in_1 : decode cX7_in 1 = .ok (.iload_n 1, 1) := by decide +kernel
theorem dX7_in_2 : decode cX7_in 2 = .ok (.if_icmp .lt 12, 3) := by decide +kernel
theorem dX7_in_5 : decode cX7_in 5 = .ok (.iload_n 0, 1) := by decide +kernel
theorem dX7_in_6 : decode cX7_in 6 = .ok (.iload_n 2, 1) := by decide +kernel
theorem dX7_in_7 : decode cX7_in 7 = .ok (.if_icmp .gt 7, 3) := by decide +kernel
theorem dX7_in_10 : decode cX7_in 10 = .ok (.iconst 1, 1) := by decide +kernel
theorem dX7_in_11 : decode cX7_in 11 = .ok (.goto 4, 3) := by decide +kernel
theorem dX7_in_14 : decode cX7_in 14 = .ok (.iconst 0, 1) := by decide +kernel
theorem dX7_in_15 : decode cX7_in 15 = .ok (.ireturn, 1) := by decide +kernel
theorem dX7_saves_0 : decode cX7_saves 0 = .ok (.aload_n 0, 1) := by decide +kernel
theorem dX7_saves_1 : decode cX7_saves 1 = .ok (.getfield 32, 3) := by decide +kernel
theorem dX7_saves_4 : decode cX7_saves 4 = .ok (.iconst 4, 1) := by decide +kernel
theorem dX7_saves_5 : decode cX7_saves 5 = .ok (.if_icmp .ne 44, 3) := by decide +kernel
theorem dX7_saves_8 : decode cX7_saves 8 = .ok (.iconst 0, 1) := by decide +kernel
theorem dX7_saves_9 : decode cX7_saves 9 = .ok (.istore_n 1, 1) := by decide +kernel
theorem dX7_saves_10 : decode cX7_saves 10 = .ok (.iload_n 1, 1) := by decide +kernel
theorem dX7_saves_11 : decode cX7_saves 11 = .ok (.sipush 1098, 3) := by decide +kernel
theorem dX7_saves_14 : decode cX7_saves 14 = .ok (.if_icmp .ge 25, 3) := by decide +kernel
theorem dX7_saves_17 : decode cX7_saves 17 = .ok (.aload_n 0, 1) := by decide +kernel
theorem dX7_saves_18 : decode cX7_saves 18 = .ok (.getfield 13, 3) := by decide +kernel
theorem dX7_saves_21 : decode cX7_saves 21 = .ok (.iload_n 1, 1) := by decide +kernel
theorem dX7_saves_22 : decode cX7_saves 22 = .ok (.aload_n 0, 1) := by decide +kernel
theorem dX7_saves_23 : decode cX7_saves 23 = .ok (.getfield 13, 3) := by decide +kernel
theorem dX7_saves_26 : decode cX7_saves 26 = .ok (.iload_n 1, 1) := by decide +kernel
theorem dX7_saves_27 : decode cX7_saves 27 = .ok (.sipush 366, 3) := by decide +kernel
theorem dX7_saves_30 : decode cX7_saves 30 = .ok (.iadd, 1) := by decide +kernel
theorem dX7_saves_31 : decode cX7_saves 31 = .ok (.iaload, 1) := by decide +kernel
theorem dX7_saves_32 : decode cX7_saves 32 = .ok (.iastore, 1) := by decide +kernel
theorem dX7_saves_33 : decode cX7_saves 33 = .ok (.iinc 1 1, 3) := by decide +kernel
theorem dX7_saves_36 : decode cX7_saves 36 = .ok (.goto (-26), 3) := by decide +kernel
theorem dX7_saves_39 : decode cX7_saves 39 = .ok (.aload_n 0, 1) := by decide +kernel
theorem dX7_saves_40 : decode cX7_saves 40 = .ok (.dup, 1) := by decide +kernel
theorem dX7_saves_41 : decode cX7_saves 41 = .ok (.getfield 32, 3) := by decide +kernel
theorem dX7_saves_44 : decode cX7_saves 44 = .ok (.iconst 1, 1) := by decide +kernel
theorem dX7_saves_45 : decode cX7_saves 45 = .ok (.isub, 1) := by decide +kernel
theorem dX7_saves_46 : decode cX7_saves 46 = .ok (.putfield 32, 3) := by decide +kernel
theorem dX7_saves_49 : decode cX7_saves 49 = .ok (.iconst 0, 1) := by decide +kernel
theorem dX7_saves_50 : decode cX7_saves 50 = .ok (.istore_n 1, 1) := by decide +kernel
theorem dX7_saves_51 : decode cX7_saves 51 = .ok (.iload_n 1, 1) := by decide +kernel
theorem dX7_saves_52 : decode cX7_saves 52 = .ok (.sipush 366, 3) := by decide +kernel
theorem dX7_saves_55 : decode cX7_saves 55 = .ok (.if_icmp .ge 30, 3) := by decide +kernel
theorem dX7_saves_58 : decode cX7_saves 58 = .ok (.aload_n 0, 1) := by decide +kernel
theorem dX7_saves_59 : decode cX7_saves 59 = .ok (.getfield 13, 3) := by decide +kernel
theorem dX7_saves_62 : decode cX7_saves 62 = .ok (.sipush 366, 3) := by decide +kernel
theorem dX7_saves_65 : decode cX7_saves 65 = .ok (.aload_n 0, 1) := by decide +kernel
theorem dX7_saves_66 : decode cX7_saves 66 = .ok (.getfield 32, 3) := by decide +kernel
theorem dX7_saves_69 : decode cX7_saves 69 = .ok (.imul, 1) := by decide +kernel
theorem dX7_saves_70 : decode cX7_saves 70 = .ok (.iload_n 1, 1) := by decide +kernel
theorem dX7_saves_71 : decode cX7_saves 71 = .ok (.iadd, 1) := by decide +kernel
theorem dX7_saves_72 : decode cX7_saves 72 = .ok (.aload_n 0, 1) := by decide +kernel
theorem dX7_saves_73 : decode cX7_saves 73 = .ok (.getfield 7, 3) := by decide +kernel
theorem dX7_saves_76 : decode cX7_saves 76 = .ok (.iload_n 1, 1) := by decide +kernel
theorem dX7_saves_77 : decode cX7_saves 77 = .ok (.iaload, 1) := by decide +kernel
theorem dX7_saves_78 : decode cX7_saves 78 = .ok (.iastore, 1) := by decide +kernel
theorem dX7_saves_79 : decode cX7_saves 79 = .ok (.iinc 1 1, 3) := by decide +kernel
theorem dX7_saves_82 : decode cX7_saves 82 = .ok (.goto (-31), 3) := by decide +kernel
theorem dX7_saves_85 : decode cX7_saves 85 = .ok (.aload_n 0, 1) := by decide +kernel
theorem dX7_saves_86 : decode cX7_saves 86 = .ok (.dup, 1) := by decide +kernel
theorem dX7_saves_87 : decode cX7_saves 87 = .ok (.getfield 32, 3) := by decide +kernel
theorem dX7_saves_90 : decode cX7_saves 90 = .ok (.iconst 1, 1) := by decide +kernel
theorem dX7_saves_91 : decode cX7_saves 91 = .ok (.iadd, 1) := by decide +kernel
theorem dX7_saves_92 : decode cX7_saves 92 = .ok (.putfield 32, 3) := by decide +kernel
theorem dX7_saves_95 : decode cX7_saves 95 = .ok (.return_, 1) := by decide +kernel
theorem dX7_undo_0 : decode cX7_undo 0 = .ok (.aload_n 0, 1) := by decide +kernel
theorem dX7_undo_1 : decode cX7_undo 1 = .ok (.aload_n 0, 1) := by decide +kernel
theorem dX7_undo_2 : decode cX7_undo 2 = .ok (.getfield 32, 3) := by decide +kernel
theorem dX7_undo_5 : decode cX7_undo 5 = .ok (.ifCond .ne 7, 3) := by decide +kernel
theorem dX7_undo_8 : decode cX7_undo 8 = .ok (.iconst 1, 1) := by decide +kernel
theorem dX7_undo_9 : decode cX7_undo 9 = .ok (.goto 4, 3) := by decide +kernel
theorem dX7_undo_12 : decode cX7_undo 12 = .ok (.iconst 0, 1) := by decide +kernel
theorem dX7_undo_13 : decode cX7_undo 13 = .ok (.invokevirtual 35, 3) := by decide +kernel
theorem dX7_undo_16 : decode cX7_undo 16 = .ok (.ifCond .eq 5, 3) := by decide +kernel
theorem dX7_undo_19 : decode cX7_undo 19 = .ok (.iconst 0, 1) := by decide +kernel
theorem dX7_undo_20 : decode cX7_undo 20 = .ok (.ireturn, 1) := by decide +kernel
theorem dX7_undo_21 : decode cX7_undo 21 = .ok (.aload_n 0, 1) := by decide +kernel
theorem dX7_undo_22 : decode cX7_undo 22 = .ok (.dup, 1) := by decide +kernel
theorem dX7_undo_23 : decode cX7_undo 23 = .ok (.getfield 32, 3) := by decide +kernel
theorem dX7_undo_26 : decode cX7_undo 26 = .ok (.iconst 1, 1) := by decide +kernel
theorem dX7_undo_27 : decode cX7_undo 27 = .ok (.isub, 1) := by decide +kernel
theorem dX7_undo_28 : decode cX7_undo 28 = .ok (.putfield 32, 3) := by decide +kernel
theorem dX7_undo_31 : decode cX7_undo 31 = .ok (.iconst 0, 1) := by decide +kernel
theorem dX7_undo_32 : decode cX7_undo 32 = .ok (.istore_n 1, 1) := by decide +kernel
theorem dX7_undo_33 : decode cX7_undo 33 = .ok (.iload_n 1, 1) := by decide +kernel
theorem dX7_undo_34 : decode cX7_undo 34 = .ok (.sipush 366, 3) := by decide +kernel
theorem dX7_undo_37 : decode cX7_undo 37 = .ok (.if_icmp .ge 30, 3) := by decide +kernel
theorem dX7_undo_40 : decode cX7_undo 40 = .ok (.aload_n 0, 1) := by decide +kernel
theorem dX7_undo_41 : decode cX7_undo 41 = .ok (.getfield 7, 3) := by decide +kernel
theorem dX7_undo_44 : decode cX7_undo 44 = .ok (.iload_n 1, 1) := by decide +kernel
theorem dX7_undo_45 : decode cX7_undo 45 = .ok (.aload_n 0, 1) := by decide +kernel
theorem dX7_undo_46 : decode cX7_undo 46 = .ok (.getfield 13, 3) := by decide +kernel
theorem dX7_undo_49 : decode cX7_undo 49 = .ok (.sipush 366, 3) := by decide +kernel
theorem dX7_undo_52 : decode cX7_undo 52 = .ok (.aload_n 0, 1) := by decide +kernel
theorem dX7_undo_53 : decode cX7_undo 53 = .ok (.getfield 32, 3) := by decide +kernel
theorem dX7_undo_56 : decode cX7_undo 56 = .ok (.imul, 1) := by decide +kernel
theorem dX7_undo_57 : decode cX7_undo 57 = .ok (.iload_n 1, 1) := by decide +kernel
theorem dX7_undo_58 : decode cX7_undo 58 = .ok (.iadd, 1) := by decide +kernel
theorem dX7_undo_59 : decode cX7_undo 59 = .ok (.iaload, 1) := by decide +kernel
theorem dX7_undo_60 : decode cX7_undo 60 = .ok (.iastore, 1) := by decide +kernel
theorem dX7_undo_61 : decode cX7_undo 61 = .ok (.iinc 1 1, 3) := by decide +kernel
theorem dX7_undo_64 : decode cX7_undo 64 = .ok (.goto (-31), 3) := by decide +kernel
theorem dX7_undo_67 : decode cX7_undo 67 = .ok (.aload_n 0, 1) := by decide +kernel
theorem dX7_undo_68 : decode cX7_undo 68 = .ok (.getfield 32, 3) := by decide +kernel
theorem dX7_undo_71 : decode cX7_undo 71 = .ok (.ireturn, 1) := by decide +kernel
theorem dX7_monthDays_0 : decode cX7_monthDays 0 = .ok (.iload_n 1, 1) := by decide +kernel
theorem dX7_monthDays_1 : decode cX7_monthDays 1 = .ok (.iconst 2, 1) := by decide +kernel
theorem dX7_monthDays_2 : decode cX7_monthDays 2 = .ok (.if_icmp .ne 19, 3) := by decide +kernel
theorem dX7_monthDays_5 : decode cX7_monthDays 5 = .ok (.iload_n 0, 1) := by decide +kernel
theorem dX7_monthDays_6 : decode cX7_monthDays 6 = .ok (.iconst 4, 1) := by decide +kernel
theorem dX7_monthDays_7 : decode cX7_monthDays 7 = .ok (.irem, 1) := by decide +kernel
theorem dX7_monthDays_8 : decode cX7_monthDays 8 = .ok (.ifCond .ne 8, 3) := by decide +kernel
theorem dX7_monthDays_11 : decode cX7_monthDays 11 = .ok (.bipush 29, 2) := by decide +kernel
theorem dX7_monthDays_13 : decode cX7_monthDays 13 = .ok (.goto 38, 3) := by decide +kernel
theorem dX7_monthDays_16 : decode cX7_monthDays 16 = .ok (.bipush 28, 2) := by decide +kernel
theorem dX7_monthDays_18 : decode cX7_monthDays 18 = .ok (.goto 33, 3) := by decide +kernel
theorem dX7_monthDays_21 : decode cX7_monthDays 21 = .ok (.iload_n 1, 1) := by decide +kernel
theorem dX7_monthDays_22 : decode cX7_monthDays 22 = .ok (.iconst 4, 1) := by decide +kernel
theorem dX7_monthDays_23 : decode cX7_monthDays 23 = .ok (.if_icmp .eq 21, 3) := by decide +kernel
theorem dX7_monthDays_26 : decode cX7_monthDays 26 = .ok (.iload_n 1, 1) := by decide +kernel
theorem dX7_monthDays_27 : decode cX7_monthDays 27 = .ok (.bipush 6, 2) := by decide +kernel
theorem dX7_monthDays_29 : decode cX7_monthDays 29 = .ok (.if_icmp .eq 15, 3) := by decide +kernel
theorem dX7_monthDays_32 : decode cX7_monthDays 32 = .ok (.iload_n 1, 1) := by decide +kernel
theorem dX7_monthDays_33 : decode cX7_monthDays 33 = .ok (.bipush 9, 2) := by decide +kernel
theorem dX7_monthDays_35 : decode cX7_monthDays 35 = .ok (.if_icmp .eq 9, 3) := by decide +kernel
theorem dX7_monthDays_38 : decode cX7_monthDays 38 = .ok (.iload_n 1, 1) := by decide +kernel
theorem dX7_monthDays_39 : decode cX7_monthDays 39 = .ok (.bipush 11, 2) := by decide +kernel
theorem dX7_monthDays_41 : decode cX7_monthDays 41 = .ok (.if_icmp .ne 8, 3) := by decide +kernel
theorem dX7_monthDays_44 : decode cX7_monthDays 44 = .ok (.bipush 30, 2) := by decide +kernel
theorem dX7_monthDays_46 : decode cX7_monthDays 46 = .ok (.goto 5, 3) := by decide +kernel
theorem dX7_monthDays_49 : decode cX7_monthDays 49 = .ok (.bipush 31, 2) := by decide +kernel
theorem dX7_monthDays_51 : decode cX7_monthDays 51 = .ok (.ireturn, 1) := by decide +kernel
theorem dX7_newYear_0 : decode cX7_newYear 0 = .ok (.sipush 365, 3) := by decide +kernel
theorem dX7_newYear_3 : decode cX7_newYear 3 = .ok (.iload_n 0, 1) := by decide +kernel
theorem dX7_newYear_4 : decode cX7_newYear 4 = .ok (.imul, 1) := by decide +kernel
theorem dX7_newYear_5 : decode cX7_newYear 5 = .ok (.iload_n 0, 1) := by decide +kernel
theorem dX7_newYear_6 : decode cX7_newYear 6 = .ok (.iconst 3, 1) := by decide +kernel
theorem dX7_newYear_7 : decode cX7_newYear 7 = .ok (.iadd, 1) := by decide +kernel
theorem dX7_newYear_8 : decode cX7_newYear 8 = .ok (.iconst 4, 1) := by decide +kernel
theorem dX7_newYear_9 : decode cX7_newYear 9 = .ok (.idiv, 1) := by decide +kernel
theorem dX7_newYear_10 : decode cX7_newYear 10 = .ok (.iadd, 1) := by decide +kernel
theorem dX7_newYear_11 : decode cX7_newYear 11 = .ok (.ireturn, 1) := by decide +kernel
theorem dX7_dayOf_0 : decode cX7_dayOf 0 = .ok (.iload_n 0, 1) := by decide +kernel
theorem dX7_dayOf_1 : decode cX7_dayOf 1 = .ok (.invokestatic 39, 3) := by decide +kernel
theorem dX7_dayOf_4 : decode cX7_dayOf 4 = .ok (.iload_n 2, 1) := by decide +kernel
theorem dX7_dayOf_5 : decode cX7_dayOf 5 = .ok (.iadd, 1) := by decide +kernel
theorem dX7_dayOf_6 : decode cX7_dayOf 6 = .ok (.iconst 1, 1) := by decide +kernel
theorem dX7_dayOf_7 : decode cX7_dayOf 7 = .ok (.isub, 1) := by decide +kernel
theorem dX7_dayOf_8 : decode cX7_dayOf 8 = .ok (.istore_n 3, 1) := by decide +kernel
theorem dX7_dayOf_9 : decode cX7_dayOf 9 = .ok (.iconst 1, 1) := by decide +kernel
theorem dX7_dayOf_10 : decode cX7_dayOf 10 = .ok (.istore 4, 2) := by decide +kernel
theorem dX7_dayOf_12 : decode cX7_dayOf 12 = .ok (.iload 4, 2) := by decide +kernel
theorem dX7_dayOf_14 : decode cX7_dayOf 14 = .ok (.iload_n 1, 1) := by decide +kernel
theorem dX7_dayOf_15 : decode cX7_dayOf 15 = .ok (.if_icmp .ge 18, 3) := by decide +kernel
theorem dX7_dayOf_18 : decode cX7_dayOf 18 = .ok (.iload_n 3, 1) := by decide +kernel
theorem dX7_dayOf_19 : decode cX7_dayOf 19 = .ok (.iload_n 0, 1) := by decide +kernel
theorem dX7_dayOf_20 : decode cX7_dayOf 20 = .ok (.iload 4, 2) := by decide +kernel
theorem dX7_dayOf_22 : decode cX7_dayOf 22 = .ok (.invokestatic 43, 3) := by decide +kernel
theorem dX7_dayOf_25 : decode cX7_dayOf 25 = .ok (.iadd, 1) := by decide +kernel
theorem dX7_dayOf_26 : decode cX7_dayOf 26 = .ok (.istore_n 3, 1) := by decide +kernel
theorem dX7_dayOf_27 : decode cX7_dayOf 27 = .ok (.iinc 4 1, 3) := by decide +kernel
theorem dX7_dayOf_30 : decode cX7_dayOf 30 = .ok (.goto (-18), 3) := by decide +kernel
theorem dX7_dayOf_33 : decode cX7_dayOf 33 = .ok (.iload_n 3, 1) := by decide +kernel
theorem dX7_dayOf_34 : decode cX7_dayOf 34 = .ok (.ireturn, 1) := by decide +kernel
theorem dX7_yearOf_0 : decode cX7_yearOf 0 = .ok (.iconst 0, 1) := by decide +kernel
theorem dX7_yearOf_1 : decode cX7_yearOf 1 = .ok (.istore_n 1, 1) := by decide +kernel
theorem dX7_yearOf_2 : decode cX7_yearOf 2 = .ok (.iload_n 1, 1) := by decide +kernel
theorem dX7_yearOf_3 : decode cX7_yearOf 3 = .ok (.iconst 1, 1) := by decide +kernel
theorem dX7_yearOf_4 : decode cX7_yearOf 4 = .ok (.iadd, 1) := by decide +kernel
theorem dX7_yearOf_5 : decode cX7_yearOf 5 = .ok (.invokestatic 39, 3) := by decide +kernel
theorem dX7_yearOf_8 : decode cX7_yearOf 8 = .ok (.iload_n 0, 1) := by decide +kernel
theorem dX7_yearOf_9 : decode cX7_yearOf 9 = .ok (.if_icmp .gt 9, 3) := by decide +kernel
theorem dX7_yearOf_12 : decode cX7_yearOf 12 = .ok (.iinc 1 1, 3) := by decide +kernel
theorem dX7_yearOf_15 : decode cX7_yearOf 15 = .ok (.goto (-13), 3) := by decide +kernel
theorem dX7_yearOf_18 : decode cX7_yearOf 18 = .ok (.iload_n 1, 1) := by decide +kernel
theorem dX7_yearOf_19 : decode cX7_yearOf 19 = .ok (.ireturn, 1) := by decide +kernel
theorem dX7_dateOf_0 : decode cX7_dateOf 0 = .ok (.iload_n 0, 1) := by decide +kernel
theorem dX7_dateOf_1 : decode cX7_dateOf 1 = .ok (.invokestatic 47, 3) := by decide +kernel
theorem dX7_dateOf_4 : decode cX7_dateOf 4 = .ok (.istore_n 1, 1) := by decide +kernel
theorem dX7_dateOf_5 : decode cX7_dateOf 5 = .ok (.iload_n 0, 1) := by decide +kernel
theorem dX7_dateOf_6 : decode cX7_dateOf 6 = .ok (.iload_n 1, 1) := by decide +kernel
theorem dX7_dateOf_7 : decode cX7_dateOf 7 = .ok (.invokestatic 39, 3) := by decide +kernel
theorem dX7_dateOf_10 : decode cX7_dateOf 10 = .ok (.isub, 1) := by decide +kernel
theorem dX7_dateOf_11 : decode cX7_dateOf 11 = .ok (.istore_n 2, 1) := by decide +kernel
theorem dX7_dateOf_12 : decode cX7_dateOf 12 = .ok (.iconst 1, 1) := by decide +kernel
theorem dX7_dateOf_13 : decode cX7_dateOf 13 = .ok (.istore_n 3, 1) := by decide +kernel
theorem dX7_dateOf_14 : decode cX7_dateOf 14 = .ok (.iload_n 2, 1) := by decide +kernel
theorem dX7_dateOf_15 : decode cX7_dateOf 15 = .ok (.iload_n 1, 1) := by decide +kernel
theorem dX7_dateOf_16 : decode cX7_dateOf 16 = .ok (.iload_n 3, 1) := by decide +kernel
theorem dX7_dateOf_17 : decode cX7_dateOf 17 = .ok (.invokestatic 43, 3) := by decide +kernel
theorem dX7_dateOf_20 : decode cX7_dateOf 20 = .ok (.if_icmp .lt 17, 3) := by decide +kernel
theorem dX7_dateOf_23 : decode cX7_dateOf 23 = .ok (.iload_n 2, 1) := by decide +kernel
theorem dX7_dateOf_24 : decode cX7_dateOf 24 = .ok (.iload_n 1, 1) := by decide +kernel
theorem dX7_dateOf_25 : decode cX7_dateOf 25 = .ok (.iload_n 3, 1) := by decide +kernel
theorem dX7_dateOf_26 : decode cX7_dateOf 26 = .ok (.invokestatic 43, 3) := by decide +kernel
theorem dX7_dateOf_29 : decode cX7_dateOf 29 = .ok (.isub, 1) := by decide +kernel
theorem dX7_dateOf_30 : decode cX7_dateOf 30 = .ok (.istore_n 2, 1) := by decide +kernel
theorem dX7_dateOf_31 : decode cX7_dateOf 31 = .ok (.iinc 3 1, 3) := by decide +kernel
theorem dX7_dateOf_34 : decode cX7_dateOf 34 = .ok (.goto (-20), 3) := by decide +kernel
theorem dX7_dateOf_37 : decode cX7_dateOf 37 = .ok (.sipush 10000, 3) := by decide +kernel
theorem dX7_dateOf_40 : decode cX7_dateOf 40 = .ok (.iload_n 1, 1) := by decide +kernel
theorem dX7_dateOf_41 : decode cX7_dateOf 41 = .ok (.imul, 1) := by decide +kernel
theorem dX7_dateOf_42 : decode cX7_dateOf 42 = .ok (.bipush 100, 2) := by decide +kernel
theorem dX7_dateOf_44 : decode cX7_dateOf 44 = .ok (.iload_n 3, 1) := by decide +kernel
theorem dX7_dateOf_45 : decode cX7_dateOf 45 = .ok (.imul, 1) := by decide +kernel
theorem dX7_dateOf_46 : decode cX7_dateOf 46 = .ok (.iadd, 1) := by decide +kernel
theorem dX7_dateOf_47 : decode cX7_dateOf 47 = .ok (.iload_n 2, 1) := by decide +kernel
theorem dX7_dateOf_48 : decode cX7_dateOf 48 = .ok (.iadd, 1) := by decide +kernel
theorem dX7_dateOf_49 : decode cX7_dateOf 49 = .ok (.iconst 1, 1) := by decide +kernel
theorem dX7_dateOf_50 : decode cX7_dateOf 50 = .ok (.iadd, 1) := by decide +kernel
theorem dX7_dateOf_51 : decode cX7_dateOf 51 = .ok (.ireturn, 1) := by decide +kernel
theorem dX7_behind_0 : decode cX7_behind 0 = .ok (.iload_n 0, 1) := by decide +kernel
theorem dX7_behind_1 : decode cX7_behind 1 = .ok (.invokestatic 50, 3) := by decide +kernel
theorem dX7_behind_4 : decode cX7_behind 4 = .ok (.istore_n 2, 1) := by decide +kernel
theorem dX7_behind_5 : decode cX7_behind 5 = .ok (.iload_n 2, 1) := by decide +kernel
theorem dX7_behind_6 : decode cX7_behind 6 = .ok (.sipush 10000, 3) := by decide +kernel
theorem dX7_behind_9 : decode cX7_behind 9 = .ok (.idiv, 1) := by decide +kernel
theorem dX7_behind_10 : decode cX7_behind 10 = .ok (.bipush 12, 2) := by decide +kernel
theorem dX7_behind_12 : decode cX7_behind 12 = .ok (.imul, 1) := by decide +kernel
theorem dX7_behind_13 : decode cX7_behind 13 = .ok (.iload_n 2, 1) := by decide +kernel
theorem dX7_behind_14 : decode cX7_behind 14 = .ok (.bipush 100, 2) := by decide +kernel
theorem dX7_behind_16 : decode cX7_behind 16 = .ok (.idiv, 1) := by decide +kernel
theorem dX7_behind_17 : decode cX7_behind 17 = .ok (.bipush 100, 2) := by decide +kernel
theorem dX7_behind_19 : decode cX7_behind 19 = .ok (.irem, 1) := by decide +kernel
theorem dX7_behind_20 : decode cX7_behind 20 = .ok (.iadd, 1) := by decide +kernel
theorem dX7_behind_21 : decode cX7_behind 21 = .ok (.iconst 1, 1) := by decide +kernel
theorem dX7_behind_22 : decode cX7_behind 22 = .ok (.isub, 1) := by decide +kernel
theorem dX7_behind_23 : decode cX7_behind 23 = .ok (.iload_n 1, 1) := by decide +kernel
theorem dX7_behind_24 : decode cX7_behind 24 = .ok (.iadd, 1) := by decide +kernel
theorem dX7_behind_25 : decode cX7_behind 25 = .ok (.istore_n 3, 1) := by decide +kernel
theorem dX7_behind_26 : decode cX7_behind 26 = .ok (.iload_n 3, 1) := by decide +kernel
theorem dX7_behind_27 : decode cX7_behind 27 = .ok (.bipush 12, 2) := by decide +kernel
theorem dX7_behind_29 : decode cX7_behind 29 = .ok (.idiv, 1) := by decide +kernel
theorem dX7_behind_30 : decode cX7_behind 30 = .ok (.istore 4, 2) := by decide +kernel
theorem dX7_behind_32 : decode cX7_behind 32 = .ok (.iload_n 3, 1) := by decide +kernel
theorem dX7_behind_33 : decode cX7_behind 33 = .ok (.bipush 12, 2) := by decide +kernel
theorem dX7_behind_35 : decode cX7_behind 35 = .ok (.irem, 1) := by decide +kernel
theorem dX7_behind_36 : decode cX7_behind 36 = .ok (.iconst 1, 1) := by decide +kernel
theorem dX7_behind_37 : decode cX7_behind 37 = .ok (.iadd, 1) := by decide +kernel
theorem dX7_behind_38 : decode cX7_behind 38 = .ok (.istore 5, 2) := by decide +kernel
theorem dX7_behind_40 : decode cX7_behind 40 = .ok (.iload 4, 2) := by decide +kernel
theorem dX7_behind_42 : decode cX7_behind 42 = .ok (.iload 5, 2) := by decide +kernel
theorem dX7_behind_44 : decode cX7_behind 44 = .ok (.invokestatic 43, 3) := by decide +kernel
theorem dX7_behind_47 : decode cX7_behind 47 = .ok (.istore 6, 2) := by decide +kernel
theorem dX7_behind_49 : decode cX7_behind 49 = .ok (.iload 4, 2) := by decide +kernel
theorem dX7_behind_51 : decode cX7_behind 51 = .ok (.iload 5, 2) := by decide +kernel
theorem dX7_behind_53 : decode cX7_behind 53 = .ok (.iload_n 2, 1) := by decide +kernel
theorem dX7_behind_54 : decode cX7_behind 54 = .ok (.bipush 100, 2) := by decide +kernel
theorem dX7_behind_56 : decode cX7_behind 56 = .ok (.irem, 1) := by decide +kernel
theorem dX7_behind_57 : decode cX7_behind 57 = .ok (.iload 6, 2) := by decide +kernel
theorem dX7_behind_59 : decode cX7_behind 59 = .ok (.if_icmp .ge 10, 3) := by decide +kernel
theorem dX7_behind_62 : decode cX7_behind 62 = .ok (.iload_n 2, 1) := by decide +kernel
theorem dX7_behind_63 : decode cX7_behind 63 = .ok (.bipush 100, 2) := by decide +kernel
theorem dX7_behind_65 : decode cX7_behind 65 = .ok (.irem, 1) := by decide +kernel
theorem dX7_behind_66 : decode cX7_behind 66 = .ok (.goto 5, 3) := by decide +kernel
theorem dX7_behind_69 : decode cX7_behind 69 = .ok (.iload 6, 2) := by decide +kernel
theorem dX7_behind_71 : decode cX7_behind 71 = .ok (.invokestatic 53, 3) := by decide +kernel
theorem dX7_behind_74 : decode cX7_behind 74 = .ok (.ireturn, 1) := by decide +kernel
theorem dX7_isHoliday_0 : decode cX7_isHoliday 0 = .ok (.iconst 0, 1) := by decide +kernel
theorem dX7_isHoliday_1 : decode cX7_isHoliday 1 = .ok (.istore_n 2, 1) := by decide +kernel
theorem dX7_isHoliday_2 : decode cX7_isHoliday 2 = .ok (.iconst 0, 1) := by decide +kernel
theorem dX7_isHoliday_3 : decode cX7_isHoliday 3 = .ok (.istore_n 3, 1) := by decide +kernel
theorem dX7_isHoliday_4 : decode cX7_isHoliday 4 = .ok (.iload_n 3, 1) := by decide +kernel
theorem dX7_isHoliday_5 : decode cX7_isHoliday 5 = .ok (.aload_n 0, 1) := by decide +kernel
theorem dX7_isHoliday_6 : decode cX7_isHoliday 6 = .ok (.getfield 7, 3) := by decide +kernel
theorem dX7_isHoliday_9 : decode cX7_isHoliday 9 = .ok (.iconst 2, 1) := by decide +kernel
theorem dX7_isHoliday_10 : decode cX7_isHoliday 10 = .ok (.iaload, 1) := by decide +kernel
theorem dX7_isHoliday_11 : decode cX7_isHoliday 11 = .ok (.if_icmp .ge 31, 3) := by decide +kernel
theorem dX7_isHoliday_14 : decode cX7_isHoliday 14 = .ok (.iload_n 2, 1) := by decide +kernel
theorem dX7_isHoliday_15 : decode cX7_isHoliday 15 = .ok (.ifCond .ne 15, 3) := by decide +kernel
theorem dX7_isHoliday_18 : decode cX7_isHoliday 18 = .ok (.aload_n 0, 1) := by decide +kernel
theorem dX7_isHoliday_19 : decode cX7_isHoliday 19 = .ok (.getfield 7, 3) := by decide +kernel
theorem dX7_isHoliday_22 : decode cX7_isHoliday 22 = .ok (.iconst 3, 1) := by decide +kernel
theorem dX7_isHoliday_23 : decode cX7_isHoliday 23 = .ok (.iload_n 3, 1) := by decide +kernel
theorem dX7_isHoliday_24 : decode cX7_isHoliday 24 = .ok (.iadd, 1) := by decide +kernel
theorem dX7_isHoliday_25 : decode cX7_isHoliday 25 = .ok (.iaload, 1) := by decide +kernel
theorem dX7_isHoliday_26 : decode cX7_isHoliday 26 = .ok (.iload_n 1, 1) := by decide +kernel
theorem dX7_isHoliday_27 : decode cX7_isHoliday 27 = .ok (.if_icmp .ne 7, 3) := by decide +kernel
theorem dX7_isHoliday_30 : decode cX7_isHoliday 30 = .ok (.iconst 1, 1) := by decide +kernel
theorem dX7_isHoliday_31 : decode cX7_isHoliday 31 = .ok (.goto 4, 3) := by decide +kernel
theorem dX7_isHoliday_34 : decode cX7_isHoliday 34 = .ok (.iconst 0, 1) := by decide +kernel
theorem dX7_isHoliday_35 : decode cX7_isHoliday 35 = .ok (.istore_n 2, 1) := by decide +kernel
theorem dX7_isHoliday_36 : decode cX7_isHoliday 36 = .ok (.iinc 3 1, 3) := by decide +kernel
theorem dX7_isHoliday_39 : decode cX7_isHoliday 39 = .ok (.goto (-35), 3) := by decide +kernel
theorem dX7_isHoliday_42 : decode cX7_isHoliday 42 = .ok (.iload_n 2, 1) := by decide +kernel
theorem dX7_isHoliday_43 : decode cX7_isHoliday 43 = .ok (.ireturn, 1) := by decide +kernel
theorem dX7_worksFrom_0 : decode cX7_worksFrom 0 = .ok (.iload_n 1, 1) := by decide +kernel
theorem dX7_worksFrom_1 : decode cX7_worksFrom 1 = .ok (.istore_n 2, 1) := by decide +kernel
theorem dX7_worksFrom_2 : decode cX7_worksFrom 2 = .ok (.iload_n 2, 1) := by decide +kernel
theorem dX7_worksFrom_3 : decode cX7_worksFrom 3 = .ok (.bipush 7, 2) := by decide +kernel
theorem dX7_worksFrom_5 : decode cX7_worksFrom 5 = .ok (.irem, 1) := by decide +kernel
theorem dX7_worksFrom_6 : decode cX7_worksFrom 6 = .ok (.iconst 4, 1) := by decide +kernel
theorem dX7_worksFrom_7 : decode cX7_worksFrom 7 = .ok (.if_icmp .gt 18, 3) := by decide +kernel
theorem dX7_worksFrom_10 : decode cX7_worksFrom 10 = .ok (.aload_n 0, 1) := by decide +kernel
theorem dX7_worksFrom_11 : decode cX7_worksFrom 11 = .ok (.iload_n 2, 1) := by decide +kernel
theorem dX7_worksFrom_12 : decode cX7_worksFrom 12 = .ok (.invokestatic 50, 3) := by decide +kernel
theorem dX7_worksFrom_15 : decode cX7_worksFrom 15 = .ok (.sipush 10000, 3) := by decide +kernel
theorem dX7_worksFrom_18 : decode cX7_worksFrom 18 = .ok (.irem, 1) := by decide +kernel
theorem dX7_worksFrom_19 : decode cX7_worksFrom 19 = .ok (.invokevirtual 57, 3) := by decide +kernel
theorem dX7_worksFrom_22 : decode cX7_worksFrom 22 = .ok (.ifCond .eq 9, 3) := by decide +kernel
theorem dX7_worksFrom_25 : decode cX7_worksFrom 25 = .ok (.iinc 2 1, 3) := by decide +kernel
theorem dX7_worksFrom_28 : decode cX7_worksFrom 28 = .ok (.goto (-26), 3) := by decide +kernel
theorem dX7_worksFrom_31 : decode cX7_worksFrom 31 = .ok (.iload_n 2, 1) := by decide +kernel
theorem dX7_worksFrom_32 : decode cX7_worksFrom 32 = .ok (.ireturn, 1) := by decide +kernel
theorem dX7_lastOf_0 : decode cX7_lastOf 0 = .ok (.iload_n 0, 1) := by decide +kernel
theorem dX7_lastOf_1 : decode cX7_lastOf 1 = .ok (.iconst 1, 1) := by decide +kernel
theorem dX7_lastOf_2 : decode cX7_lastOf 2 = .ok (.iadd, 1) := by decide +kernel
theorem dX7_lastOf_3 : decode cX7_lastOf 3 = .ok (.invokestatic 39, 3) := by decide +kernel
theorem dX7_lastOf_6 : decode cX7_lastOf 6 = .ok (.iconst 1, 1) := by decide +kernel
theorem dX7_lastOf_7 : decode cX7_lastOf 7 = .ok (.isub, 1) := by decide +kernel
theorem dX7_lastOf_8 : decode cX7_lastOf 8 = .ok (.ireturn, 1) := by decide +kernel
theorem dX7_date_0 : decode cX7_date 0 = .ok (.aload_n 0, 1) := by decide +kernel
theorem dX7_date_1 : decode cX7_date 1 = .ok (.iload_n 1, 1) := by decide +kernel
theorem dX7_date_2 : decode cX7_date 2 = .ok (.iconst 0, 1) := by decide +kernel
theorem dX7_date_3 : decode cX7_date 3 = .ok (.bipush 79, 2) := by decide +kernel
theorem dX7_date_5 : decode cX7_date 5 = .ok (.invokestatic 60, 3) := by decide +kernel
theorem dX7_date_8 : decode cX7_date 8 = .ok (.invokestatic 63, 3) := by decide +kernel
theorem dX7_date_11 : decode cX7_date 11 = .ok (.ifCond .eq 7, 3) := by decide +kernel
theorem dX7_date_14 : decode cX7_date 14 = .ok (.iconst 0, 1) := by decide +kernel
theorem dX7_date_15 : decode cX7_date 15 = .ok (.goto 4, 3) := by decide +kernel
theorem dX7_date_18 : decode cX7_date 18 = .ok (.iconst 1, 1) := by decide +kernel
theorem dX7_date_19 : decode cX7_date 19 = .ok (.invokevirtual 35, 3) := by decide +kernel
theorem dX7_date_22 : decode cX7_date 22 = .ok (.ifCond .eq 7, 3) := by decide +kernel
theorem dX7_date_25 : decode cX7_date 25 = .ok (.iconst 0, 1) := by decide +kernel
theorem dX7_date_26 : decode cX7_date 26 = .ok (.goto 7, 3) := by decide +kernel
theorem dX7_date_29 : decode cX7_date 29 = .ok (.iload_n 1, 1) := by decide +kernel
theorem dX7_date_30 : decode cX7_date 30 = .ok (.invokestatic 50, 3) := by decide +kernel
theorem dX7_date_33 : decode cX7_date 33 = .ok (.ireturn, 1) := by decide +kernel
theorem dX7_day_0 : decode cX7_day 0 = .ok (.iload_n 1, 1) := by decide +kernel
theorem dX7_day_1 : decode cX7_day 1 = .ok (.iconst 0, 1) := by decide +kernel
theorem dX7_day_2 : decode cX7_day 2 = .ok (.bipush 79, 2) := by decide +kernel
theorem dX7_day_4 : decode cX7_day 4 = .ok (.invokestatic 63, 3) := by decide +kernel
theorem dX7_day_7 : decode cX7_day 7 = .ok (.ifCond .eq 30, 3) := by decide +kernel
theorem dX7_day_10 : decode cX7_day 10 = .ok (.iload_n 2, 1) := by decide +kernel
theorem dX7_day_11 : decode cX7_day 11 = .ok (.iconst 1, 1) := by decide +kernel
theorem dX7_day_12 : decode cX7_day 12 = .ok (.bipush 12, 2) := by decide +kernel
theorem dX7_day_14 : decode cX7_day 14 = .ok (.invokestatic 63, 3) := by decide +kernel
theorem dX7_day_17 : decode cX7_day 17 = .ok (.ifCond .eq 20, 3) := by decide +kernel
theorem dX7_day_20 : decode cX7_day 20 = .ok (.iload_n 3, 1) := by decide +kernel
theorem dX7_day_21 : decode cX7_day 21 = .ok (.iconst 1, 1) := by decide +kernel
theorem dX7_day_22 : decode cX7_day 22 = .ok (.iload_n 1, 1) := by decide +kernel
theorem dX7_day_23 : decode cX7_day 23 = .ok (.iload_n 2, 1) := by decide +kernel
theorem dX7_day_24 : decode cX7_day 24 = .ok (.invokestatic 43, 3) := by decide +kernel
theorem dX7_day_27 : decode cX7_day 27 = .ok (.invokestatic 63, 3) := by decide +kernel
theorem dX7_day_30 : decode cX7_day 30 = .ok (.ifCond .eq 7, 3) := by decide +kernel
theorem dX7_day_33 : decode cX7_day 33 = .ok (.iconst 1, 1) := by decide +kernel
theorem dX7_day_34 : decode cX7_day 34 = .ok (.goto 4, 3) := by decide +kernel
theorem dX7_day_37 : decode cX7_day 37 = .ok (.iconst 0, 1) := by decide +kernel
theorem dX7_day_38 : decode cX7_day 38 = .ok (.istore 4, 2) := by decide +kernel
theorem dX7_day_40 : decode cX7_day 40 = .ok (.aload_n 0, 1) := by decide +kernel
theorem dX7_day_41 : decode cX7_day 41 = .ok (.iload 4, 2) := by decide +kernel
theorem dX7_day_43 : decode cX7_day 43 = .ok (.ifCond .eq 7, 3) := by decide +kernel
theorem dX7_day_46 : decode cX7_day 46 = .ok (.iconst 0, 1) := by decide +kernel
theorem dX7_day_47 : decode cX7_day 47 = .ok (.goto 4, 3) := by decide +kernel
theorem dX7_day_50 : decode cX7_day 50 = .ok (.iconst 1, 1) := by decide +kernel
theorem dX7_day_51 : decode cX7_day 51 = .ok (.invokevirtual 35, 3) := by decide +kernel
theorem dX7_day_54 : decode cX7_day 54 = .ok (.ifCond .eq 7, 3) := by decide +kernel
theorem dX7_day_57 : decode cX7_day 57 = .ok (.iconst 0, 1) := by decide +kernel
theorem dX7_day_58 : decode cX7_day 58 = .ok (.goto 9, 3) := by decide +kernel
theorem dX7_day_61 : decode cX7_day 61 = .ok (.iload_n 1, 1) := by decide +kernel
theorem dX7_day_62 : decode cX7_day 62 = .ok (.iload_n 2, 1) := by decide +kernel
theorem dX7_day_63 : decode cX7_day 63 = .ok (.iload_n 3, 1) := by decide +kernel
theorem dX7_day_64 : decode cX7_day 64 = .ok (.invokestatic 53, 3) := by decide +kernel
theorem dX7_day_67 : decode cX7_day 67 = .ok (.ireturn, 1) := by decide +kernel
theorem dX7_later_0 : decode cX7_later 0 = .ok (.aload_n 0, 1) := by decide +kernel
theorem dX7_later_1 : decode cX7_later 1 = .ok (.iload_n 1, 1) := by decide +kernel
theorem dX7_later_2 : decode cX7_later 2 = .ok (.iconst 0, 1) := by decide +kernel
theorem dX7_later_3 : decode cX7_later 3 = .ok (.bipush 49, 2) := by decide +kernel
theorem dX7_later_5 : decode cX7_later 5 = .ok (.invokestatic 60, 3) := by decide +kernel
theorem dX7_later_8 : decode cX7_later 8 = .ok (.invokestatic 63, 3) := by decide +kernel
theorem dX7_later_11 : decode cX7_later 11 = .ok (.ifCond .eq 18, 3) := by decide +kernel
theorem dX7_later_14 : decode cX7_later 14 = .ok (.iload_n 2, 1) := by decide +kernel
theorem dX7_later_15 : decode cX7_later 15 = .ok (.iconst 0, 1) := by decide +kernel
theorem dX7_later_16 : decode cX7_later 16 = .ok (.sipush 300, 3) := by decide +kernel
theorem dX7_later_19 : decode cX7_later 19 = .ok (.invokestatic 63, 3) := by decide +kernel
theorem dX7_later_22 : decode cX7_later 22 = .ok (.ifCond .eq 7, 3) := by decide +kernel
theorem dX7_later_25 : decode cX7_later 25 = .ok (.iconst 0, 1) := by decide +kernel
theorem dX7_later_26 : decode cX7_later 26 = .ok (.goto 4, 3) := by decide +kernel
theorem dX7_later_29 : decode cX7_later 29 = .ok (.iconst 1, 1) := by decide +kernel
theorem dX7_later_30 : decode cX7_later 30 = .ok (.invokevirtual 35, 3) := by decide +kernel
theorem dX7_later_33 : decode cX7_later 33 = .ok (.ifCond .eq 7, 3) := by decide +kernel
theorem dX7_later_36 : decode cX7_later 36 = .ok (.iconst 0, 1) := by decide +kernel
theorem dX7_later_37 : decode cX7_later 37 = .ok (.goto 8, 3) := by decide +kernel
theorem dX7_later_40 : decode cX7_later 40 = .ok (.iload_n 1, 1) := by decide +kernel
theorem dX7_later_41 : decode cX7_later 41 = .ok (.iload_n 2, 1) := by decide +kernel
theorem dX7_later_42 : decode cX7_later 42 = .ok (.invokestatic 67, 3) := by decide +kernel
theorem dX7_later_45 : decode cX7_later 45 = .ok (.ireturn, 1) := by decide +kernel
theorem dX7_putOff_0 : decode cX7_putOff 0 = .ok (.aload_n 0, 1) := by decide +kernel
theorem dX7_putOff_1 : decode cX7_putOff 1 = .ok (.iload_n 1, 1) := by decide +kernel
theorem dX7_putOff_2 : decode cX7_putOff 2 = .ok (.iconst 0, 1) := by decide +kernel
theorem dX7_putOff_3 : decode cX7_putOff 3 = .ok (.bipush 78, 2) := by decide +kernel
theorem dX7_putOff_5 : decode cX7_putOff 5 = .ok (.invokestatic 60, 3) := by decide +kernel
theorem dX7_putOff_8 : decode cX7_putOff 8 = .ok (.invokestatic 63, 3) := by decide +kernel
theorem dX7_putOff_11 : decode cX7_putOff 11 = .ok (.ifCond .eq 7, 3) := by decide +kernel
theorem dX7_putOff_14 : decode cX7_putOff 14 = .ok (.iconst 0, 1) := by decide +kernel
theorem dX7_putOff_15 : decode cX7_putOff 15 = .ok (.goto 4, 3) := by decide +kernel
theorem dX7_putOff_18 : decode cX7_putOff 18 = .ok (.iconst 1, 1) := by decide +kernel
theorem dX7_putOff_19 : decode cX7_putOff 19 = .ok (.invokevirtual 35, 3) := by decide +kernel
theorem dX7_putOff_22 : decode cX7_putOff 22 = .ok (.ifCond .eq 7, 3) := by decide +kernel
theorem dX7_putOff_25 : decode cX7_putOff 25 = .ok (.iconst 0, 1) := by decide +kernel
theorem dX7_putOff_26 : decode cX7_putOff 26 = .ok (.goto 8, 3) := by decide +kernel
theorem dX7_putOff_29 : decode cX7_putOff 29 = .ok (.aload_n 0, 1) := by decide +kernel
theorem dX7_putOff_30 : decode cX7_putOff 30 = .ok (.iload_n 1, 1) := by decide +kernel
theorem dX7_putOff_31 : decode cX7_putOff 31 = .ok (.invokevirtual 70, 3) := by decide +kernel
theorem dX7_putOff_34 : decode cX7_putOff 34 = .ok (.ireturn, 1) := by decide +kernel
theorem dX7_takesHoliday_0 : decode cX7_takesHoliday 0 = .ok (.iconst 0, 1) := by decide +kernel
theorem dX7_takesHoliday_1 : decode cX7_takesHoliday 1 = .ok (.istore_n 2, 1) := by decide +kernel
theorem dX7_takesHoliday_2 : decode cX7_takesHoliday 2 = .ok (.iconst 0, 1) := by decide +kernel
theorem dX7_takesHoliday_3 : decode cX7_takesHoliday 3 = .ok (.istore_n 3, 1) := by decide +kernel
theorem dX7_takesHoliday_4 : decode cX7_takesHoliday 4 = .ok (.iload_n 3, 1) := by decide +kernel
theorem dX7_takesHoliday_5 : decode cX7_takesHoliday 5 = .ok (.aload_n 0, 1) := by decide +kernel
theorem dX7_takesHoliday_6 : decode cX7_takesHoliday 6 = .ok (.getfield 7, 3) := by decide +kernel
theorem dX7_takesHoliday_9 : decode cX7_takesHoliday 9 = .ok (.iconst 2, 1) := by decide +kernel
theorem dX7_takesHoliday_10 : decode cX7_takesHoliday 10 = .ok (.iaload, 1) := by decide +kernel
theorem dX7_takesHoliday_11 : decode cX7_takesHoliday 11 = .ok (.if_icmp .ge 40, 3) := by decide +kernel
theorem dX7_takesHoliday_14 : decode cX7_takesHoliday 14 = .ok (.aload_n 0, 1) := by decide +kernel
theorem dX7_takesHoliday_15 : decode cX7_takesHoliday 15 = .ok (.getfield 7, 3) := by decide +kernel
theorem dX7_takesHoliday_18 : decode cX7_takesHoliday 18 = .ok (.iconst 3, 1) := by decide +kernel
theorem dX7_takesHoliday_19 : decode cX7_takesHoliday 19 = .ok (.iload_n 3, 1) := by decide +kernel
theorem dX7_takesHoliday_20 : decode cX7_takesHoliday 20 = .ok (.iadd, 1) := by decide +kernel
theorem dX7_takesHoliday_21 : decode cX7_takesHoliday 21 = .ok (.iaload, 1) := by decide +kernel
theorem dX7_takesHoliday_22 : decode cX7_takesHoliday 22 = .ok (.iload_n 1, 1) := by decide +kernel
theorem dX7_takesHoliday_23 : decode cX7_takesHoliday 23 = .ok (.if_icmp .eq 22, 3) := by decide +kernel
theorem dX7_takesHoliday_26 : decode cX7_takesHoliday 26 = .ok (.aload_n 0, 1) := by decide +kernel
theorem dX7_takesHoliday_27 : decode cX7_takesHoliday 27 = .ok (.getfield 7, 3) := by decide +kernel
theorem dX7_takesHoliday_30 : decode cX7_takesHoliday 30 = .ok (.iconst 3, 1) := by decide +kernel
theorem dX7_takesHoliday_31 : decode cX7_takesHoliday 31 = .ok (.iload_n 2, 1) := by decide +kernel
theorem dX7_takesHoliday_32 : decode cX7_takesHoliday 32 = .ok (.iadd, 1) := by decide +kernel
theorem dX7_takesHoliday_33 : decode cX7_takesHoliday 33 = .ok (.aload_n 0, 1) := by decide +kernel
theorem dX7_takesHoliday_34 : decode cX7_takesHoliday 34 = .ok (.getfield 7, 3) := by decide +kernel
theorem dX7_takesHoliday_37 : decode cX7_takesHoliday 37 = .ok (.iconst 3, 1) := by decide +kernel
theorem dX7_takesHoliday_38 : decode cX7_takesHoliday 38 = .ok (.iload_n 3, 1) := by decide +kernel
theorem dX7_takesHoliday_39 : decode cX7_takesHoliday 39 = .ok (.iadd, 1) := by decide +kernel
theorem dX7_takesHoliday_40 : decode cX7_takesHoliday 40 = .ok (.iaload, 1) := by decide +kernel
theorem dX7_takesHoliday_41 : decode cX7_takesHoliday 41 = .ok (.iastore, 1) := by decide +kernel
theorem dX7_takesHoliday_42 : decode cX7_takesHoliday 42 = .ok (.iinc 2 1, 3) := by decide +kernel
theorem dX7_takesHoliday_45 : decode cX7_takesHoliday 45 = .ok (.iinc 3 1, 3) := by decide +kernel
theorem dX7_takesHoliday_48 : decode cX7_takesHoliday 48 = .ok (.goto (-44), 3) := by decide +kernel
theorem dX7_takesHoliday_51 : decode cX7_takesHoliday 51 = .ok (.aload_n 0, 1) := by decide +kernel
theorem dX7_takesHoliday_52 : decode cX7_takesHoliday 52 = .ok (.getfield 7, 3) := by decide +kernel
theorem dX7_takesHoliday_55 : decode cX7_takesHoliday 55 = .ok (.iconst 2, 1) := by decide +kernel
theorem dX7_takesHoliday_56 : decode cX7_takesHoliday 56 = .ok (.iload_n 2, 1) := by decide +kernel
theorem dX7_takesHoliday_57 : decode cX7_takesHoliday 57 = .ok (.iastore, 1) := by decide +kernel
theorem dX7_takesHoliday_58 : decode cX7_takesHoliday 58 = .ok (.return_, 1) := by decide +kernel
theorem dX7_holiday_0 : decode cX7_holiday 0 = .ok (.iload_n 1, 1) := by decide +kernel
theorem dX7_holiday_1 : decode cX7_holiday 1 = .ok (.iconst 1, 1) := by decide +kernel
theorem dX7_holiday_2 : decode cX7_holiday 2 = .ok (.bipush 12, 2) := by decide +kernel
theorem dX7_holiday_4 : decode cX7_holiday 4 = .ok (.invokestatic 63, 3) := by decide +kernel
theorem dX7_holiday_7 : decode cX7_holiday 7 = .ok (.ifCond .eq 20, 3) := by decide +kernel
theorem dX7_holiday_10 : decode cX7_holiday 10 = .ok (.iload_n 2, 1) := by decide +kernel
theorem dX7_holiday_11 : decode cX7_holiday 11 = .ok (.iconst 1, 1) := by decide +kernel
theorem dX7_holiday_12 : decode cX7_holiday 12 = .ok (.iconst 0, 1) := by decide +kernel
theorem dX7_holiday_13 : decode cX7_holiday 13 = .ok (.iload_n 1, 1) := by decide +kernel
theorem dX7_holiday_14 : decode cX7_holiday 14 = .ok (.invokestatic 43, 3) := by decide +kernel
theorem dX7_holiday_17 : decode cX7_holiday 17 = .ok (.invokestatic 63, 3) := by decide +kernel
theorem dX7_holiday_20 : decode cX7_holiday 20 = .ok (.ifCond .eq 7, 3) := by decide +kernel
theorem dX7_holiday_23 : decode cX7_holiday 23 = .ok (.iconst 1, 1) := by decide +kernel
theorem dX7_holiday_24 : decode cX7_holiday 24 = .ok (.goto 4, 3) := by decide +kernel
theorem dX7_holiday_27 : decode cX7_holiday 27 = .ok (.iconst 0, 1) := by decide +kernel
theorem dX7_holiday_28 : decode cX7_holiday 28 = .ok (.istore_n 3, 1) := by decide +kernel
theorem dX7_holiday_29 : decode cX7_holiday 29 = .ok (.iload_n 3, 1) := by decide +kernel
theorem dX7_holiday_30 : decode cX7_holiday 30 = .ok (.ifCond .eq 12, 3) := by decide +kernel
theorem dX7_holiday_33 : decode cX7_holiday 33 = .ok (.bipush 100, 2) := by decide +kernel
theorem dX7_holiday_35 : decode cX7_holiday 35 = .ok (.iload_n 1, 1) := by decide +kernel
theorem dX7_holiday_36 : decode cX7_holiday 36 = .ok (.imul, 1) := by decide +kernel
theorem dX7_holiday_37 : decode cX7_holiday 37 = .ok (.iload_n 2, 1) := by decide +kernel
theorem dX7_holiday_38 : decode cX7_holiday 38 = .ok (.iadd, 1) := by decide +kernel
theorem dX7_holiday_39 : decode cX7_holiday 39 = .ok (.goto 4, 3) := by decide +kernel
theorem dX7_holiday_42 : decode cX7_holiday 42 = .ok (.iconst 0, 1) := by decide +kernel
theorem dX7_holiday_43 : decode cX7_holiday 43 = .ok (.istore 4, 2) := by decide +kernel
theorem dX7_holiday_45 : decode cX7_holiday 45 = .ok (.aload_n 0, 1) := by decide +kernel
theorem dX7_holiday_46 : decode cX7_holiday 46 = .ok (.getfield 7, 3) := by decide +kernel
theorem dX7_holiday_49 : decode cX7_holiday 49 = .ok (.iconst 2, 1) := by decide +kernel
theorem dX7_holiday_50 : decode cX7_holiday 50 = .ok (.iaload, 1) := by decide +kernel
theorem dX7_holiday_51 : decode cX7_holiday 51 = .ok (.bipush 6, 2) := by decide +kernel
theorem dX7_holiday_53 : decode cX7_holiday 53 = .ok (.if_icmp .ne 16, 3) := by decide +kernel
theorem dX7_holiday_56 : decode cX7_holiday 56 = .ok (.aload_n 0, 1) := by decide +kernel
theorem dX7_holiday_57 : decode cX7_holiday 57 = .ok (.iload 4, 2) := by decide +kernel
theorem dX7_holiday_59 : decode cX7_holiday 59 = .ok (.invokevirtual 57, 3) := by decide +kernel
theorem dX7_holiday_62 : decode cX7_holiday 62 = .ok (.ifCond .ne 7, 3) := by decide +kernel
theorem dX7_holiday_65 : decode cX7_holiday 65 = .ok (.iconst 1, 1) := by decide +kernel
theorem dX7_holiday_66 : decode cX7_holiday 66 = .ok (.goto 4, 3) := by decide +kernel
theorem dX7_holiday_69 : decode cX7_holiday 69 = .ok (.iconst 0, 1) := by decide +kernel
theorem dX7_holiday_70 : decode cX7_holiday 70 = .ok (.istore 5, 2) := by decide +kernel
theorem dX7_holiday_72 : decode cX7_holiday 72 = .ok (.aload_n 0, 1) := by decide +kernel
theorem dX7_holiday_73 : decode cX7_holiday 73 = .ok (.iload_n 3, 1) := by decide +kernel
theorem dX7_holiday_74 : decode cX7_holiday 74 = .ok (.ifCond .ne 7, 3) := by decide +kernel
theorem dX7_holiday_77 : decode cX7_holiday 77 = .ok (.iconst 1, 1) := by decide +kernel
theorem dX7_holiday_78 : decode cX7_holiday 78 = .ok (.goto 22, 3) := by decide +kernel
theorem dX7_holiday_81 : decode cX7_holiday 81 = .ok (.aload_n 0, 1) := by decide +kernel
theorem dX7_holiday_82 : decode cX7_holiday 82 = .ok (.getfield 7, 3) := by decide +kernel
theorem dX7_holiday_85 : decode cX7_holiday 85 = .ok (.iconst 1, 1) := by decide +kernel
theorem dX7_holiday_86 : decode cX7_holiday 86 = .ok (.iaload, 1) := by decide +kernel
theorem dX7_holiday_87 : decode cX7_holiday 87 = .ok (.ifCond .gt 8, 3) := by decide +kernel
theorem dX7_holiday_90 : decode cX7_holiday 90 = .ok (.iload 5, 2) := by decide +kernel
theorem dX7_holiday_92 : decode cX7_holiday 92 = .ok (.ifCond .eq 7, 3) := by decide +kernel
theorem dX7_holiday_95 : decode cX7_holiday 95 = .ok (.iconst 2, 1) := by decide +kernel
theorem dX7_holiday_96 : decode cX7_holiday 96 = .ok (.goto 4, 3) := by decide +kernel
theorem dX7_holiday_99 : decode cX7_holiday 99 = .ok (.iconst 0, 1) := by decide +kernel
theorem dX7_holiday_100 : decode cX7_holiday 100 = .ok (.invokevirtual 35, 3) := by decide +kernel
theorem dX7_holiday_103 : decode cX7_holiday 103 = .ok (.ifCond .eq 5, 3) := by decide +kernel
theorem dX7_holiday_106 : decode cX7_holiday 106 = .ok (.iconst 0, 1) := by decide +kernel
theorem dX7_holiday_107 : decode cX7_holiday 107 = .ok (.ireturn, 1) := by decide +kernel
theorem dX7_holiday_108 : decode cX7_holiday 108 = .ok (.aload_n 0, 1) := by decide +kernel
theorem dX7_holiday_109 : decode cX7_holiday 109 = .ok (.invokevirtual 73, 3) := by decide +kernel
theorem dX7_holiday_112 : decode cX7_holiday 112 = .ok (.aload_n 0, 1) := by decide +kernel
theorem dX7_holiday_113 : decode cX7_holiday 113 = .ok (.iload 4, 2) := by decide +kernel
theorem dX7_holiday_115 : decode cX7_holiday 115 = .ok (.invokevirtual 57, 3) := by decide +kernel
theorem dX7_holiday_118 : decode cX7_holiday 118 = .ok (.ifCond .eq 12, 3) := by decide +kernel
theorem dX7_holiday_121 : decode cX7_holiday 121 = .ok (.aload_n 0, 1) := by decide +kernel
theorem dX7_holiday_122 : decode cX7_holiday 122 = .ok (.iload 4, 2) := by decide +kernel
theorem dX7_holiday_124 : decode cX7_holiday 124 = .ok (.invokevirtual 76, 3) := by decide +kernel
theorem dX7_holiday_127 : decode cX7_holiday 127 = .ok (.goto 28, 3) := by decide +kernel
theorem dX7_holiday_130 : decode cX7_holiday 130 = .ok (.aload_n 0, 1) := by decide +kernel
theorem dX7_holiday_131 : decode cX7_holiday 131 = .ok (.getfield 7, 3) := by decide +kernel
theorem dX7_holiday_134 : decode cX7_holiday 134 = .ok (.iconst 3, 1) := by decide +kernel
theorem dX7_holiday_135 : decode cX7_holiday 135 = .ok (.aload_n 0, 1) := by decide +kernel
theorem dX7_holiday_136 : decode cX7_holiday 136 = .ok (.getfield 7, 3) := by decide +kernel
theorem dX7_holiday_139 : decode cX7_holiday 139 = .ok (.iconst 2, 1) := by decide +kernel
theorem dX7_holiday_140 : decode cX7_holiday 140 = .ok (.iaload, 1) := by decide +kernel
theorem dX7_holiday_141 : decode cX7_holiday 141 = .ok (.iadd, 1) := by decide +kernel
theorem dX7_holiday_142 : decode cX7_holiday 142 = .ok (.iload 4, 2) := by decide +kernel
theorem dX7_holiday_144 : decode cX7_holiday 144 = .ok (.iastore, 1) := by decide +kernel
theorem dX7_holiday_145 : decode cX7_holiday 145 = .ok (.aload_n 0, 1) := by decide +kernel
theorem dX7_holiday_146 : decode cX7_holiday 146 = .ok (.getfield 7, 3) := by decide +kernel
theorem dX7_holiday_149 : decode cX7_holiday 149 = .ok (.iconst 2, 1) := by decide +kernel
theorem dX7_holiday_150 : decode cX7_holiday 150 = .ok (.dup2, 1) := by decide +kernel
theorem dX7_holiday_151 : decode cX7_holiday 151 = .ok (.iaload, 1) := by decide +kernel
theorem dX7_holiday_152 : decode cX7_holiday 152 = .ok (.iconst 1, 1) := by decide +kernel
theorem dX7_holiday_153 : decode cX7_holiday 153 = .ok (.iadd, 1) := by decide +kernel
theorem dX7_holiday_154 : decode cX7_holiday 154 = .ok (.iastore, 1) := by decide +kernel
theorem dX7_holiday_155 : decode cX7_holiday 155 = .ok (.aload_n 0, 1) := by decide +kernel
theorem dX7_holiday_156 : decode cX7_holiday 156 = .ok (.getfield 7, 3) := by decide +kernel
theorem dX7_holiday_159 : decode cX7_holiday 159 = .ok (.iconst 2, 1) := by decide +kernel
theorem dX7_holiday_160 : decode cX7_holiday 160 = .ok (.iaload, 1) := by decide +kernel
theorem dX7_holiday_161 : decode cX7_holiday 161 = .ok (.ireturn, 1) := by decide +kernel
theorem dX7_at_0 : decode cX7_at 0 = .ok (.bipush 16, 2) := by decide +kernel
theorem dX7_at_2 : decode cX7_at 2 = .ok (.bipush 35, 2) := by decide +kernel
theorem dX7_at_4 : decode cX7_at 4 = .ok (.iload_n 0, 1) := by decide +kernel
theorem dX7_at_5 : decode cX7_at 5 = .ok (.imul, 1) := by decide +kernel
theorem dX7_at_6 : decode cX7_at 6 = .ok (.iadd, 1) := by decide +kernel
theorem dX7_at_7 : decode cX7_at 7 = .ok (.ireturn, 1) := by decide +kernel
theorem dX7_of_0 : decode cX7_of 0 = .ok (.aload_n 0, 1) := by decide +kernel
theorem dX7_of_1 : decode cX7_of 1 = .ok (.getfield 7, 3) := by decide +kernel
theorem dX7_of_4 : decode cX7_of 4 = .ok (.iload_n 1, 1) := by decide +kernel
theorem dX7_of_5 : decode cX7_of 5 = .ok (.invokestatic 80, 3) := by decide +kernel
theorem dX7_of_8 : decode cX7_of 8 = .ok (.iload_n 2, 1) := by decide +kernel
theorem dX7_of_9 : decode cX7_of 9 = .ok (.iadd, 1) := by decide +kernel
theorem dX7_of_10 : decode cX7_of 10 = .ok (.iaload, 1) := by decide +kernel
theorem dX7_of_11 : decode cX7_of 11 = .ok (.ireturn, 1) := by decide +kernel
theorem dX7_isRight_0 : decode cX7_isRight 0 = .ok (.iload_n 1, 1) := by decide +kernel
theorem dX7_isRight_1 : decode cX7_isRight 1 = .ok (.iconst 0, 1) := by decide +kernel
theorem dX7_isRight_2 : decode cX7_isRight 2 = .ok (.aload_n 0, 1) := by decide +kernel
theorem dX7_isRight_3 : decode cX7_isRight 3 = .ok (.getfield 7, 3) := by decide +kernel
theorem dX7_isRight_6 : decode cX7_isRight 6 = .ok (.iconst 1, 1) := by decide +kernel
theorem dX7_isRight_7 : decode cX7_isRight 7 = .ok (.iaload, 1) := by decide +kernel
theorem dX7_isRight_8 : decode cX7_isRight 8 = .ok (.iconst 1, 1) := by decide +kernel
theorem dX7_isRight_9 : decode cX7_isRight 9 = .ok (.isub, 1) := by decide +kernel
theorem dX7_isRight_10 : decode cX7_isRight 10 = .ok (.invokestatic 63, 3) := by decide +kernel
theorem dX7_isRight_13 : decode cX7_isRight 13 = .ok (.ireturn, 1) := by decide +kernel
theorem dX7_comes_0 : decode cX7_comes 0 = .ok (.aload_n 0, 1) := by decide +kernel
theorem dX7_comes_1 : decode cX7_comes 1 = .ok (.getfield 7, 3) := by decide +kernel
theorem dX7_comes_4 : decode cX7_comes 4 = .ok (.iconst 1, 1) := by decide +kernel
theorem dX7_comes_5 : decode cX7_comes 5 = .ok (.iaload, 1) := by decide +kernel
theorem dX7_comes_6 : decode cX7_comes 6 = .ok (.invokestatic 80, 3) := by decide +kernel
theorem dX7_comes_9 : decode cX7_comes 9 = .ok (.istore_n 3, 1) := by decide +kernel
theorem dX7_comes_10 : decode cX7_comes 10 = .ok (.iconst 0, 1) := by decide +kernel
theorem dX7_comes_11 : decode cX7_comes 11 = .ok (.istore 4, 2) := by decide +kernel
theorem dX7_comes_13 : decode cX7_comes 13 = .ok (.iload 4, 2) := by decide +kernel
theorem dX7_comes_15 : decode cX7_comes 15 = .ok (.bipush 35, 2) := by decide +kernel
theorem dX7_comes_17 : decode cX7_comes 17 = .ok (.if_icmp .ge 30, 3) := by decide +kernel
theorem dX7_comes_20 : decode cX7_comes 20 = .ok (.aload_n 0, 1) := by decide +kernel
theorem dX7_comes_21 : decode cX7_comes 21 = .ok (.getfield 7, 3) := by decide +kernel
theorem dX7_comes_24 : decode cX7_comes 24 = .ok (.iload_n 3, 1) := by decide +kernel
theorem dX7_comes_25 : decode cX7_comes 25 = .ok (.iload 4, 2) := by decide +kernel
theorem dX7_comes_27 : decode cX7_comes 27 = .ok (.iadd, 1) := by decide +kernel
theorem dX7_comes_28 : decode cX7_comes 28 = .ok (.iload 4, 2) := by decide +kernel
theorem dX7_comes_30 : decode cX7_comes 30 = .ok (.bipush 25, 2) := by decide +kernel
theorem dX7_comes_32 : decode cX7_comes 32 = .ok (.if_icmp .ge 7, 3) := by decide +kernel
theorem dX7_comes_35 : decode cX7_comes 35 = .ok (.iconst 0, 1) := by decide +kernel
theorem dX7_comes_36 : decode cX7_comes 36 = .ok (.goto 4, 3) := by decide +kernel
theorem dX7_comes_39 : decode cX7_comes 39 = .ok (.iconst (-1), 1) := by decide +kernel
theorem dX7_comes_40 : decode cX7_comes 40 = .ok (.iastore, 1) := by decide +kernel
theorem dX7_comes_41 : decode cX7_comes 41 = .ok (.iinc 4 1, 3) := by decide +kernel
theorem dX7_comes_44 : decode cX7_comes 44 = .ok (.goto (-31), 3) := by decide +kernel
theorem dX7_comes_47 : decode cX7_comes 47 = .ok (.aload_n 0, 1) := by decide +kernel
theorem dX7_comes_48 : decode cX7_comes 48 = .ok (.getfield 7, 3) := by decide +kernel
theorem dX7_comes_51 : decode cX7_comes 51 = .ok (.iload_n 3, 1) := by decide +kernel
theorem dX7_comes_52 : decode cX7_comes 52 = .ok (.iconst 0, 1) := by decide +kernel
theorem dX7_comes_53 : decode cX7_comes 53 = .ok (.iadd, 1) := by decide +kernel
theorem dX7_comes_54 : decode cX7_comes 54 = .ok (.iload_n 1, 1) := by decide +kernel
theorem dX7_comes_55 : decode cX7_comes 55 = .ok (.iastore, 1) := by decide +kernel
theorem dX7_comes_56 : decode cX7_comes 56 = .ok (.aload_n 0, 1) := by decide +kernel
theorem dX7_comes_57 : decode cX7_comes 57 = .ok (.getfield 7, 3) := by decide +kernel
theorem dX7_comes_60 : decode cX7_comes 60 = .ok (.iload_n 3, 1) := by decide +kernel
theorem dX7_comes_61 : decode cX7_comes 61 = .ok (.iconst 1, 1) := by decide +kernel
theorem dX7_comes_62 : decode cX7_comes 62 = .ok (.iadd, 1) := by decide +kernel
theorem dX7_comes_63 : decode cX7_comes 63 = .ok (.iload_n 2, 1) := by decide +kernel
theorem dX7_comes_64 : decode cX7_comes 64 = .ok (.ifCond .eq 7, 3) := by decide +kernel
theorem dX7_comes_67 : decode cX7_comes 67 = .ok (.iconst 1, 1) := by decide +kernel
theorem dX7_comes_68 : decode cX7_comes 68 = .ok (.goto 4, 3) := by decide +kernel
theorem dX7_comes_71 : decode cX7_comes 71 = .ok (.iconst 0, 1) := by decide +kernel
theorem dX7_comes_72 : decode cX7_comes 72 = .ok (.iastore, 1) := by decide +kernel
theorem dX7_comes_73 : decode cX7_comes 73 = .ok (.aload_n 0, 1) := by decide +kernel
theorem dX7_comes_74 : decode cX7_comes 74 = .ok (.getfield 7, 3) := by decide +kernel
theorem dX7_comes_77 : decode cX7_comes 77 = .ok (.iconst 1, 1) := by decide +kernel
theorem dX7_comes_78 : decode cX7_comes 78 = .ok (.dup2, 1) := by decide +kernel
theorem dX7_comes_79 : decode cX7_comes 79 = .ok (.iaload, 1) := by decide +kernel
theorem dX7_comes_80 : decode cX7_comes 80 = .ok (.iconst 1, 1) := by decide +kernel
theorem dX7_comes_81 : decode cX7_comes 81 = .ok (.iadd, 1) := by decide +kernel
theorem dX7_comes_82 : decode cX7_comes 82 = .ok (.iastore, 1) := by decide +kernel
theorem dX7_comes_83 : decode cX7_comes 83 = .ok (.aload_n 0, 1) := by decide +kernel
theorem dX7_comes_84 : decode cX7_comes 84 = .ok (.getfield 7, 3) := by decide +kernel
theorem dX7_comes_87 : decode cX7_comes 87 = .ok (.iconst 1, 1) := by decide +kernel
theorem dX7_comes_88 : decode cX7_comes 88 = .ok (.iaload, 1) := by decide +kernel
theorem dX7_comes_89 : decode cX7_comes 89 = .ok (.iconst 1, 1) := by decide +kernel
theorem dX7_comes_90 : decode cX7_comes 90 = .ok (.isub, 1) := by decide +kernel
theorem dX7_comes_91 : decode cX7_comes 91 = .ok (.ireturn, 1) := by decide +kernel
theorem dX7_file_0 : decode cX7_file 0 = .ok (.aload_n 0, 1) := by decide +kernel
theorem dX7_file_1 : decode cX7_file 1 = .ok (.aload_n 0, 1) := by decide +kernel
theorem dX7_file_2 : decode cX7_file 2 = .ok (.getfield 7, 3) := by decide +kernel
theorem dX7_file_5 : decode cX7_file 5 = .ok (.iconst 1, 1) := by decide +kernel
theorem dX7_file_6 : decode cX7_file 6 = .ok (.iaload, 1) := by decide +kernel
theorem dX7_file_7 : decode cX7_file 7 = .ok (.bipush 10, 2) := by decide +kernel
theorem dX7_file_9 : decode cX7_file 9 = .ok (.if_icmp .eq 17, 3) := by decide +kernel
theorem dX7_file_12 : decode cX7_file 12 = .ok (.aload_n 0, 1) := by decide +kernel
theorem dX7_file_13 : decode cX7_file 13 = .ok (.getfield 7, 3) := by decide +kernel
theorem dX7_file_16 : decode cX7_file 16 = .ok (.iconst 0, 1) := by decide +kernel
theorem dX7_file_17 : decode cX7_file 17 = .ok (.iaload, 1) := by decide +kernel
theorem dX7_file_18 : decode cX7_file 18 = .ok (.bipush 49, 2) := by decide +kernel
theorem dX7_file_20 : decode cX7_file 20 = .ok (.invokestatic 60, 3) := by decide +kernel
theorem dX7_file_23 : decode cX7_file 23 = .ok (.if_icmp .le 7, 3) := by decide +kernel
theorem dX7_file_26 : decode cX7_file 26 = .ok (.iconst 1, 1) := by decide +kernel
theorem dX7_file_27 : decode cX7_file 27 = .ok (.goto 4, 3) := by decide +kernel
theorem dX7_file_30 : decode cX7_file 30 = .ok (.iconst 0, 1) := by decide +kernel
theorem dX7_file_31 : decode cX7_file 31 = .ok (.invokevirtual 35, 3) := by decide +kernel
theorem dX7_file_34 : decode cX7_file 34 = .ok (.ifCond .eq 5, 3) := by decide +kernel
theorem dX7_file_37 : decode cX7_file 37 = .ok (.iconst 0, 1) := by decide +kernel
theorem dX7_file_38 : decode cX7_file 38 = .ok (.ireturn, 1) := by decide +kernel
theorem dX7_file_39 : decode cX7_file 39 = .ok (.aload_n 0, 1) := by decide +kernel
theorem dX7_file_40 : decode cX7_file 40 = .ok (.invokevirtual 73, 3) := by decide +kernel
theorem dX7_file_43 : decode cX7_file 43 = .ok (.aload_n 0, 1) := by decide +kernel
theorem dX7_file_44 : decode cX7_file 44 = .ok (.aload_n 0, 1) := by decide +kernel
theorem dX7_file_45 : decode cX7_file 45 = .ok (.getfield 7, 3) := by decide +kernel
theorem dX7_file_48 : decode cX7_file 48 = .ok (.iconst 0, 1) := by decide +kernel
theorem dX7_file_49 : decode cX7_file 49 = .ok (.iaload, 1) := by decide +kernel
theorem dX7_file_50 : decode cX7_file 50 = .ok (.iload_n 1, 1) := by decide +kernel
theorem dX7_file_51 : decode cX7_file 51 = .ok (.invokevirtual 83, 3) := by decide +kernel
theorem dX7_file_54 : decode cX7_file 54 = .ok (.ireturn, 1) := by decide +kernel
theorem dX7_dueOf_0 : decode cX7_dueOf 0 = .ok (.aload_n 0, 1) := by decide +kernel
theorem dX7_dueOf_1 : decode cX7_dueOf 1 = .ok (.aload_n 0, 1) := by decide +kernel
theorem dX7_dueOf_2 : decode cX7_dueOf 2 = .ok (.iload_n 1, 1) := by decide +kernel
theorem dX7_dueOf_3 : decode cX7_dueOf 3 = .ok (.iconst 0, 1) := by decide +kernel
theorem dX7_dueOf_4 : decode cX7_dueOf 4 = .ok (.invokevirtual 87, 3) := by decide +kernel
theorem dX7_dueOf_7 : decode cX7_dueOf 7 = .ok (.bipush 12, 2) := by decide +kernel
theorem dX7_dueOf_9 : decode cX7_dueOf 9 = .ok (.iload_n 2, 1) := by decide +kernel
theorem dX7_dueOf_10 : decode cX7_dueOf 10 = .ok (.imul, 1) := by decide +kernel
theorem dX7_dueOf_11 : decode cX7_dueOf 11 = .ok (.invokestatic 67, 3) := by decide +kernel
theorem dX7_dueOf_14 : decode cX7_dueOf 14 = .ok (.invokevirtual 70, 3) := by decide +kernel
theorem dX7_dueOf_17 : decode cX7_dueOf 17 = .ok (.ireturn, 1) := by decide +kernel
theorem dX7_graceOf_0 : decode cX7_graceOf 0 = .ok (.aload_n 0, 1) := by decide +kernel
theorem dX7_graceOf_1 : decode cX7_graceOf 1 = .ok (.aload_n 0, 1) := by decide +kernel
theorem dX7_graceOf_2 : decode cX7_graceOf 2 = .ok (.iload_n 1, 1) := by decide +kernel
theorem dX7_graceOf_3 : decode cX7_graceOf 3 = .ok (.iconst 0, 1) := by decide +kernel
theorem dX7_graceOf_4 : decode cX7_graceOf 4 = .ok (.invokevirtual 87, 3) := by decide +kernel
theorem dX7_graceOf_7 : decode cX7_graceOf 7 = .ok (.bipush 12, 2) := by decide +kernel
theorem dX7_graceOf_9 : decode cX7_graceOf 9 = .ok (.iload_n 2, 1) := by decide +kernel
theorem dX7_graceOf_10 : decode cX7_graceOf 10 = .ok (.imul, 1) := by decide +kernel
theorem dX7_graceOf_11 : decode cX7_graceOf 11 = .ok (.bipush 6, 2) := by decide +kernel
theorem dX7_graceOf_13 : decode cX7_graceOf 13 = .ok (.iadd, 1) := by decide +kernel
theorem dX7_graceOf_14 : decode cX7_graceOf 14 = .ok (.invokestatic 67, 3) := by decide +kernel
theorem dX7_graceOf_17 : decode cX7_graceOf 17 = .ok (.invokevirtual 70, 3) := by decide +kernel
theorem dX7_graceOf_20 : decode cX7_graceOf 20 = .ok (.ireturn, 1) := by decide +kernel
theorem dX7_endOf_0 : decode cX7_endOf 0 = .ok (.aload_n 0, 1) := by decide +kernel
theorem dX7_endOf_1 : decode cX7_endOf 1 = .ok (.iload_n 1, 1) := by decide +kernel
theorem dX7_endOf_2 : decode cX7_endOf 2 = .ok (.iconst 0, 1) := by decide +kernel
theorem dX7_endOf_3 : decode cX7_endOf 3 = .ok (.invokevirtual 87, 3) := by decide +kernel
theorem dX7_endOf_6 : decode cX7_endOf 6 = .ok (.sipush 240, 3) := by decide +kernel
theorem dX7_endOf_9 : decode cX7_endOf 9 = .ok (.invokestatic 67, 3) := by decide +kernel
theorem dX7_endOf_12 : decode cX7_endOf 12 = .ok (.iconst 1, 1) := by decide +kernel
theorem dX7_endOf_13 : decode cX7_endOf 13 = .ok (.isub, 1) := by decide +kernel
theorem dX7_endOf_14 : decode cX7_endOf 14 = .ok (.ireturn, 1) := by decide +kernel
theorem dX7_nextOf_0 : decode cX7_nextOf 0 = .ok (.aload_n 0, 1) := by decide +kernel
theorem dX7_nextOf_1 : decode cX7_nextOf 1 = .ok (.iload_n 1, 1) := by decide +kernel
theorem dX7_nextOf_2 : decode cX7_nextOf 2 = .ok (.iconst 2, 1) := by decide +kernel
theorem dX7_nextOf_3 : decode cX7_nextOf 3 = .ok (.invokevirtual 87, 3) := by decide +kernel
theorem dX7_nextOf_6 : decode cX7_nextOf 6 = .ok (.bipush 19, 2) := by decide +kernel
theorem dX7_nextOf_8 : decode cX7_nextOf 8 = .ok (.if_icmp .ne 7, 3) := by decide +kernel
theorem dX7_nextOf_11 : decode cX7_nextOf 11 = .ok (.iconst (-1), 1) := by decide +kernel
theorem dX7_nextOf_12 : decode cX7_nextOf 12 = .ok (.goto 11, 3) := by decide +kernel
theorem dX7_nextOf_15 : decode cX7_nextOf 15 = .ok (.aload_n 0, 1) := by decide +kernel
theorem dX7_nextOf_16 : decode cX7_nextOf 16 = .ok (.iload_n 1, 1) := by decide +kernel
theorem dX7_nextOf_17 : decode cX7_nextOf 17 = .ok (.iconst 2, 1) := by decide +kernel
theorem dX7_nextOf_18 : decode cX7_nextOf 18 = .ok (.invokevirtual 87, 3) := by decide +kernel
theorem dX7_nextOf_21 : decode cX7_nextOf 21 = .ok (.iconst 1, 1) := by decide +kernel
theorem dX7_nextOf_22 : decode cX7_nextOf 22 = .ok (.iadd, 1) := by decide +kernel
theorem dX7_nextOf_23 : decode cX7_nextOf 23 = .ok (.ireturn, 1) := by decide +kernel
theorem dX7_isLapsed_0 : decode cX7_isLapsed 0 = .ok (.aload_n 0, 1) := by decide +kernel
theorem dX7_isLapsed_1 : decode cX7_isLapsed 1 = .ok (.iload_n 1, 1) := by decide +kernel
theorem dX7_isLapsed_2 : decode cX7_isLapsed 2 = .ok (.invokevirtual 90, 3) := by decide +kernel
theorem dX7_isLapsed_5 : decode cX7_isLapsed 5 = .ok (.iconst (-1), 1) := by decide +kernel
theorem dX7_isLapsed_6 : decode cX7_isLapsed 6 = .ok (.if_icmp .eq 26, 3) := by decide +kernel
theorem dX7_isLapsed_9 : decode cX7_isLapsed 9 = .ok (.aload_n 0, 1) := by decide +kernel
theorem dX7_isLapsed_10 : decode cX7_isLapsed 10 = .ok (.getfield 7, 3) := by decide +kernel
theorem dX7_isLapsed_13 : decode cX7_isLapsed 13 = .ok (.iconst 0, 1) := by decide +kernel
theorem dX7_isLapsed_14 : decode cX7_isLapsed 14 = .ok (.iaload, 1) := by decide +kernel
theorem dX7_isLapsed_15 : decode cX7_isLapsed 15 = .ok (.aload_n 0, 1) := by decide +kernel
theorem dX7_isLapsed_16 : decode cX7_isLapsed 16 = .ok (.iload_n 1, 1) := by decide +kernel
theorem dX7_isLapsed_17 : decode cX7_isLapsed 17 = .ok (.aload_n 0, 1) := by decide +kernel
theorem dX7_isLapsed_18 : decode cX7_isLapsed 18 = .ok (.iload_n 1, 1) := by decide +kernel
theorem dX7_isLapsed_19 : decode cX7_isLapsed 19 = .ok (.invokevirtual 90, 3) := by decide +kernel
theorem dX7_isLapsed_22 : decode cX7_isLapsed 22 = .ok (.invokevirtual 93, 3) := by decide +kernel
theorem dX7_isLapsed_25 : decode cX7_isLapsed 25 = .ok (.if_icmp .le 7, 3) := by decide +kernel
theorem dX7_isLapsed_28 : decode cX7_isLapsed 28 = .ok (.iconst 1, 1) := by decide +kernel
theorem dX7_isLapsed_29 : decode cX7_isLapsed 29 = .ok (.goto 4, 3) := by decide +kernel
theorem dX7_isLapsed_32 : decode cX7_isLapsed 32 = .ok (.iconst 0, 1) := by decide +kernel
theorem dX7_isLapsed_33 : decode cX7_isLapsed 33 = .ok (.ireturn, 1) := by decide +kernel
theorem dX7_stands_0 : decode cX7_stands 0 = .ok (.aload_n 0, 1) := by decide +kernel
theorem dX7_stands_1 : decode cX7_stands 1 = .ok (.iload_n 1, 1) := by decide +kernel
theorem dX7_stands_2 : decode cX7_stands 2 = .ok (.invokevirtual 96, 3) := by decide +kernel
theorem dX7_stands_5 : decode cX7_stands 5 = .ok (.ifCond .ne 30, 3) := by decide +kernel
theorem dX7_stands_8 : decode cX7_stands 8 = .ok (.aload_n 0, 1) := by decide +kernel
theorem dX7_stands_9 : decode cX7_stands 9 = .ok (.getfield 7, 3) := by decide +kernel
theorem dX7_stands_12 : decode cX7_stands 12 = .ok (.iconst 0, 1) := by decide +kernel
theorem dX7_stands_13 : decode cX7_stands 13 = .ok (.iaload, 1) := by decide +kernel
theorem dX7_stands_14 : decode cX7_stands 14 = .ok (.aload_n 0, 1) := by decide +kernel
theorem dX7_stands_15 : decode cX7_stands 15 = .ok (.iload_n 1, 1) := by decide +kernel
theorem dX7_stands_16 : decode cX7_stands 16 = .ok (.iconst 0, 1) := by decide +kernel
theorem dX7_stands_17 : decode cX7_stands 17 = .ok (.invokevirtual 87, 3) := by decide +kernel
theorem dX7_stands_20 : decode cX7_stands 20 = .ok (.aload_n 0, 1) := by decide +kernel
theorem dX7_stands_21 : decode cX7_stands 21 = .ok (.iload_n 1, 1) := by decide +kernel
theorem dX7_stands_22 : decode cX7_stands 22 = .ok (.invokevirtual 99, 3) := by decide +kernel
theorem dX7_stands_25 : decode cX7_stands 25 = .ok (.invokestatic 63, 3) := by decide +kernel
theorem dX7_stands_28 : decode cX7_stands 28 = .ok (.ifCond .eq 7, 3) := by decide +kernel
theorem dX7_stands_31 : decode cX7_stands 31 = .ok (.iconst 1, 1) := by decide +kernel
theorem dX7_stands_32 : decode cX7_stands 32 = .ok (.goto 4, 3) := by decide +kernel
theorem dX7_stands_35 : decode cX7_stands 35 = .ok (.iconst 0, 1) := by decide +kernel
theorem dX7_stands_36 : decode cX7_stands 36 = .ok (.ireturn, 1) := by decide +kernel
theorem dX7_lapsedOnes_0 : decode cX7_lapsedOnes 0 = .ok (.iconst 0, 1) := by decide +kernel
theorem dX7_lapsedOnes_1 : decode cX7_lapsedOnes 1 = .ok (.istore_n 1, 1) := by decide +kernel
theorem dX7_lapsedOnes_2 : decode cX7_lapsedOnes 2 = .ok (.iconst 0, 1) := by decide +kernel
theorem dX7_lapsedOnes_3 : decode cX7_lapsedOnes 3 = .ok (.istore_n 2, 1) := by decide +kernel
theorem dX7_lapsedOnes_4 : decode cX7_lapsedOnes 4 = .ok (.iload_n 2, 1) := by decide +kernel
theorem dX7_lapsedOnes_5 : decode cX7_lapsedOnes 5 = .ok (.aload_n 0, 1) := by decide +kernel
theorem dX7_lapsedOnes_6 : decode cX7_lapsedOnes 6 = .ok (.getfield 7, 3) := by decide +kernel
theorem dX7_lapsedOnes_9 : decode cX7_lapsedOnes 9 = .ok (.iconst 1, 1) := by decide +kernel
theorem dX7_lapsedOnes_10 : decode cX7_lapsedOnes 10 = .ok (.iaload, 1) := by decide +kernel
theorem dX7_lapsedOnes_11 : decode cX7_lapsedOnes 11 = .ok (.if_icmp .ge 25, 3) := by decide +kernel
theorem dX7_lapsedOnes_14 : decode cX7_lapsedOnes 14 = .ok (.iload_n 1, 1) := by decide +kernel
theorem dX7_lapsedOnes_15 : decode cX7_lapsedOnes 15 = .ok (.aload_n 0, 1) := by decide +kernel
theorem dX7_lapsedOnes_16 : decode cX7_lapsedOnes 16 = .ok (.iload_n 2, 1) := by decide +kernel
theorem dX7_lapsedOnes_17 : decode cX7_lapsedOnes 17 = .ok (.invokevirtual 96, 3) := by decide +kernel
theorem dX7_lapsedOnes_20 : decode cX7_lapsedOnes 20 = .ok (.ifCond .eq 7, 3) := by decide +kernel
theorem dX7_lapsedOnes_23 : decode cX7_lapsedOnes 23 = .ok (.iconst 1, 1) := by decide +kernel
theorem dX7_lapsedOnes_24 : decode cX7_lapsedOnes 24 = .ok (.goto 4, 3) := by decide +kernel
theorem dX7_lapsedOnes_27 : decode cX7_lapsedOnes 27 = .ok (.iconst 0, 1) := by decide +kernel
theorem dX7_lapsedOnes_28 : decode cX7_lapsedOnes 28 = .ok (.iadd, 1) := by decide +kernel
theorem dX7_lapsedOnes_29 : decode cX7_lapsedOnes 29 = .ok (.istore_n 1, 1) := by decide +kernel
theorem dX7_lapsedOnes_30 : decode cX7_lapsedOnes 30 = .ok (.iinc 2 1, 3) := by decide +kernel
theorem dX7_lapsedOnes_33 : decode cX7_lapsedOnes 33 = .ok (.goto (-29), 3) := by decide +kernel
theorem dX7_lapsedOnes_36 : decode cX7_lapsedOnes 36 = .ok (.iload_n 1, 1) := by decide +kernel
theorem dX7_lapsedOnes_37 : decode cX7_lapsedOnes 37 = .ok (.ireturn, 1) := by decide +kernel
theorem dX7_pass_0 : decode cX7_pass 0 = .ok (.aload_n 0, 1) := by decide +kernel
theorem dX7_pass_1 : decode cX7_pass 1 = .ok (.iload_n 1, 1) := by decide +kernel
theorem dX7_pass_2 : decode cX7_pass 2 = .ok (.iconst 1, 1) := by decide +kernel
theorem dX7_pass_3 : decode cX7_pass 3 = .ok (.sipush 4000, 3) := by decide +kernel
theorem dX7_pass_6 : decode cX7_pass 6 = .ok (.invokestatic 63, 3) := by decide +kernel
theorem dX7_pass_9 : decode cX7_pass 9 = .ok (.ifCond .ne 7, 3) := by decide +kernel
theorem dX7_pass_12 : decode cX7_pass 12 = .ok (.iconst 1, 1) := by decide +kernel
theorem dX7_pass_13 : decode cX7_pass 13 = .ok (.goto 24, 3) := by decide +kernel
theorem dX7_pass_16 : decode cX7_pass 16 = .ok (.aload_n 0, 1) := by decide +kernel
theorem dX7_pass_17 : decode cX7_pass 17 = .ok (.getfield 7, 3) := by decide +kernel
theorem dX7_pass_20 : decode cX7_pass 20 = .ok (.iconst 0, 1) := by decide +kernel
theorem dX7_pass_21 : decode cX7_pass 21 = .ok (.iaload, 1) := by decide +kernel
theorem dX7_pass_22 : decode cX7_pass 22 = .ok (.iload_n 1, 1) := by decide +kernel
theorem dX7_pass_23 : decode cX7_pass 23 = .ok (.iadd, 1) := by decide +kernel
theorem dX7_pass_24 : decode cX7_pass 24 = .ok (.bipush 75, 2) := by decide +kernel
theorem dX7_pass_26 : decode cX7_pass 26 = .ok (.invokestatic 60, 3) := by decide +kernel
theorem dX7_pass_29 : decode cX7_pass 29 = .ok (.if_icmp .le 7, 3) := by decide +kernel
theorem dX7_pass_32 : decode cX7_pass 32 = .ok (.iconst 2, 1) := by decide +kernel
theorem dX7_pass_33 : decode cX7_pass 33 = .ok (.goto 4, 3) := by decide +kernel
theorem dX7_pass_36 : decode cX7_pass 36 = .ok (.iconst 0, 1) := by decide +kernel
theorem dX7_pass_37 : decode cX7_pass 37 = .ok (.invokevirtual 35, 3) := by decide +kernel
theorem dX7_pass_40 : decode cX7_pass 40 = .ok (.ifCond .eq 5, 3) := by decide +kernel
theorem dX7_pass_43 : decode cX7_pass 43 = .ok (.iconst 0, 1) := by decide +kernel
theorem dX7_pass_44 : decode cX7_pass 44 = .ok (.ireturn, 1) := by decide +kernel
theorem dX7_pass_45 : decode cX7_pass 45 = .ok (.aload_n 0, 1) := by decide +kernel
theorem dX7_pass_46 : decode cX7_pass 46 = .ok (.invokevirtual 73, 3) := by decide +kernel
theorem dX7_pass_49 : decode cX7_pass 49 = .ok (.aload_n 0, 1) := by decide +kernel
theorem dX7_pass_50 : decode cX7_pass 50 = .ok (.invokevirtual 102, 3) := by decide +kernel
theorem dX7_pass_53 : decode cX7_pass 53 = .ok (.istore_n 2, 1) := by decide +kernel
theorem dX7_pass_54 : decode cX7_pass 54 = .ok (.aload_n 0, 1) := by decide +kernel
theorem dX7_pass_55 : decode cX7_pass 55 = .ok (.getfield 7, 3) := by decide +kernel
theorem dX7_pass_58 : decode cX7_pass 58 = .ok (.iconst 0, 1) := by decide +kernel
theorem dX7_pass_59 : decode cX7_pass 59 = .ok (.dup2, 1) := by decide +kernel
theorem dX7_pass_60 : decode cX7_pass 60 = .ok (.iaload, 1) := by decide +kernel
theorem dX7_pass_61 : decode cX7_pass 61 = .ok (.iload_n 1, 1) := by decide +kernel
theorem dX7_pass_62 : decode cX7_pass 62 = .ok (.iadd, 1) := by decide +kernel
theorem dX7_pass_63 : decode cX7_pass 63 = .ok (.iastore, 1) := by decide +kernel
theorem dX7_pass_64 : decode cX7_pass 64 = .ok (.aload_n 0, 1) := by decide +kernel
theorem dX7_pass_65 : decode cX7_pass 65 = .ok (.invokevirtual 102, 3) := by decide +kernel
theorem dX7_pass_68 : decode cX7_pass 68 = .ok (.iload_n 2, 1) := by decide +kernel
theorem dX7_pass_69 : decode cX7_pass 69 = .ok (.isub, 1) := by decide +kernel
theorem dX7_pass_70 : decode cX7_pass 70 = .ok (.ireturn, 1) := by decide +kernel
theorem dX7_feeOf_0 : decode cX7_feeOf 0 = .ok (.aload_n 0, 1) := by decide +kernel
theorem dX7_feeOf_1 : decode cX7_feeOf 1 = .ok (.getfield 7, 3) := by decide +kernel
theorem dX7_feeOf_4 : decode cX7_feeOf 4 = .ok (.bipush 9, 2) := by decide +kernel
theorem dX7_feeOf_6 : decode cX7_feeOf 6 = .ok (.iaload, 1) := by decide +kernel
theorem dX7_feeOf_7 : decode cX7_feeOf 7 = .ok (.aload_n 0, 1) := by decide +kernel
theorem dX7_feeOf_8 : decode cX7_feeOf 8 = .ok (.getfield 7, 3) := by decide +kernel
theorem dX7_feeOf_11 : decode cX7_feeOf 11 = .ok (.bipush 10, 2) := by decide +kernel
theorem dX7_feeOf_13 : decode cX7_feeOf 13 = .ok (.iaload, 1) := by decide +kernel
theorem dX7_feeOf_14 : decode cX7_feeOf 14 = .ok (.iload_n 2, 1) := by decide +kernel
theorem dX7_feeOf_15 : decode cX7_feeOf 15 = .ok (.imul, 1) := by decide +kernel
theorem dX7_feeOf_16 : decode cX7_feeOf 16 = .ok (.iadd, 1) := by decide +kernel
theorem dX7_feeOf_17 : decode cX7_feeOf 17 = .ok (.istore_n 3, 1) := by decide +kernel
theorem dX7_feeOf_18 : decode cX7_feeOf 18 = .ok (.aload_n 0, 1) := by decide +kernel
theorem dX7_feeOf_19 : decode cX7_feeOf 19 = .ok (.iload_n 1, 1) := by decide +kernel
theorem dX7_feeOf_20 : decode cX7_feeOf 20 = .ok (.iconst 1, 1) := by decide +kernel
theorem dX7_feeOf_21 : decode cX7_feeOf 21 = .ok (.invokevirtual 87, 3) := by decide +kernel
theorem dX7_feeOf_24 : decode cX7_feeOf 24 = .ok (.iconst 1, 1) := by decide +kernel
theorem dX7_feeOf_25 : decode cX7_feeOf 25 = .ok (.if_icmp .ne 11, 3) := by decide +kernel
theorem dX7_feeOf_28 : decode cX7_feeOf 28 = .ok (.iload_n 3, 1) := by decide +kernel
theorem dX7_feeOf_29 : decode cX7_feeOf 29 = .ok (.iconst 1, 1) := by decide +kernel
theorem dX7_feeOf_30 : decode cX7_feeOf 30 = .ok (.iadd, 1) := by decide +kernel
theorem dX7_feeOf_31 : decode cX7_feeOf 31 = .ok (.iconst 2, 1) := by decide +kernel
theorem dX7_feeOf_32 : decode cX7_feeOf 32 = .ok (.idiv, 1) := by decide +kernel
theorem dX7_feeOf_33 : decode cX7_feeOf 33 = .ok (.goto 4, 3) := by decide +kernel
theorem dX7_feeOf_36 : decode cX7_feeOf 36 = .ok (.iload_n 3, 1) := by decide +kernel
theorem dX7_feeOf_37 : decode cX7_feeOf 37 = .ok (.ireturn, 1) := by decide +kernel
theorem dX7_surchargeOn_0 : decode cX7_surchargeOn 0 = .ok (.aload_n 0, 1) := by decide +kernel
theorem dX7_surchargeOn_1 : decode cX7_surchargeOn 1 = .ok (.getfield 7, 3) := by decide +kernel
theorem dX7_surchargeOn_4 : decode cX7_surchargeOn 4 = .ok (.bipush 11, 2) := by decide +kernel
theorem dX7_surchargeOn_6 : decode cX7_surchargeOn 6 = .ok (.iaload, 1) := by decide +kernel
theorem dX7_surchargeOn_7 : decode cX7_surchargeOn 7 = .ok (.iload_n 1, 1) := by decide +kernel
theorem dX7_surchargeOn_8 : decode cX7_surchargeOn 8 = .ok (.imul, 1) := by decide +kernel
theorem dX7_surchargeOn_9 : decode cX7_surchargeOn 9 = .ok (.bipush 100, 2) := by decide +kernel
theorem dX7_surchargeOn_11 : decode cX7_surchargeOn 11 = .ok (.idiv, 1) := by decide +kernel
theorem dX7_surchargeOn_12 : decode cX7_surchargeOn 12 = .ok (.ireturn, 1) := by decide +kernel
theorem dX7_paysNext_0 : decode cX7_paysNext 0 = .ok (.aload_n 0, 1) := by decide +kernel
theorem dX7_paysNext_1 : decode cX7_paysNext 1 = .ok (.iload_n 1, 1) := by decide +kernel
theorem dX7_paysNext_2 : decode cX7_paysNext 2 = .ok (.invokevirtual 90, 3) := by decide +kernel
theorem dX7_paysNext_5 : decode cX7_paysNext 5 = .ok (.istore_n 3, 1) := by decide +kernel
theorem dX7_paysNext_6 : decode cX7_paysNext 6 = .ok (.aload_n 0, 1) := by decide +kernel
theorem dX7_paysNext_7 : decode cX7_paysNext 7 = .ok (.iload_n 1, 1) := by decide +kernel
theorem dX7_paysNext_8 : decode cX7_paysNext 8 = .ok (.iload_n 3, 1) := by decide +kernel
theorem dX7_paysNext_9 : decode cX7_paysNext 9 = .ok (.invokevirtual 106, 3) := by decide +kernel
theorem dX7_paysNext_12 : decode cX7_paysNext 12 = .ok (.istore 4, 2) := by decide +kernel
theorem dX7_paysNext_14 : decode cX7_paysNext 14 = .ok (.iload_n 2, 1) := by decide +kernel
theorem dX7_paysNext_15 : decode cX7_paysNext 15 = .ok (.ifCond .eq 12, 3) := by decide +kernel
theorem dX7_paysNext_18 : decode cX7_paysNext 18 = .ok (.aload_n 0, 1) := by decide +kernel
theorem dX7_paysNext_19 : decode cX7_paysNext 19 = .ok (.iload 4, 2) := by decide +kernel
theorem dX7_paysNext_21 : decode cX7_paysNext 21 = .ok (.invokevirtual 109, 3) := by decide +kernel
theorem dX7_paysNext_24 : decode cX7_paysNext 24 = .ok (.goto 4, 3) := by decide +kernel
theorem dX7_paysNext_27 : decode cX7_paysNext 27 = .ok (.iconst 0, 1) := by decide +kernel
theorem dX7_paysNext_28 : decode cX7_paysNext 28 = .ok (.istore 5, 2) := by decide +kernel
theorem dX7_paysNext_30 : decode cX7_paysNext 30 = .ok (.aload_n 0, 1) := by decide +kernel
theorem dX7_paysNext_31 : decode cX7_paysNext 31 = .ok (.getfield 7, 3) := by decide +kernel
theorem dX7_paysNext_34 : decode cX7_paysNext 34 = .ok (.iload_n 1, 1) := by decide +kernel
theorem dX7_paysNext_35 : decode cX7_paysNext 35 = .ok (.invokestatic 80, 3) := by decide +kernel
theorem dX7_paysNext_38 : decode cX7_paysNext 38 = .ok (.bipush 6, 2) := by decide +kernel
theorem dX7_paysNext_40 : decode cX7_paysNext 40 = .ok (.iadd, 1) := by decide +kernel
theorem dX7_paysNext_41 : decode cX7_paysNext 41 = .ok (.iload_n 3, 1) := by decide +kernel
theorem dX7_paysNext_42 : decode cX7_paysNext 42 = .ok (.iadd, 1) := by decide +kernel
theorem dX7_paysNext_43 : decode cX7_paysNext 43 = .ok (.iconst 1, 1) := by decide +kernel
theorem dX7_paysNext_44 : decode cX7_paysNext 44 = .ok (.isub, 1) := by decide +kernel
theorem dX7_paysNext_45 : decode cX7_paysNext 45 = .ok (.aload_n 0, 1) := by decide +kernel
theorem dX7_paysNext_46 : decode cX7_paysNext 46 = .ok (.getfield 7, 3) := by decide +kernel
theorem dX7_paysNext_49 : decode cX7_paysNext 49 = .ok (.iconst 0, 1) := by decide +kernel
theorem dX7_paysNext_50 : decode cX7_paysNext 50 = .ok (.iaload, 1) := by decide +kernel
theorem dX7_paysNext_51 : decode cX7_paysNext 51 = .ok (.iastore, 1) := by decide +kernel
theorem dX7_paysNext_52 : decode cX7_paysNext 52 = .ok (.aload_n 0, 1) := by decide +kernel
theorem dX7_paysNext_53 : decode cX7_paysNext 53 = .ok (.getfield 7, 3) := by decide +kernel
theorem dX7_paysNext_56 : decode cX7_paysNext 56 = .ok (.iload_n 1, 1) := by decide +kernel
theorem dX7_paysNext_57 : decode cX7_paysNext 57 = .ok (.invokestatic 80, 3) := by decide +kernel
theorem dX7_paysNext_60 : decode cX7_paysNext 60 = .ok (.iconst 2, 1) := by decide +kernel
theorem dX7_paysNext_61 : decode cX7_paysNext 61 = .ok (.iadd, 1) := by decide +kernel
theorem dX7_paysNext_62 : decode cX7_paysNext 62 = .ok (.dup2, 1) := by decide +kernel
theorem dX7_paysNext_63 : decode cX7_paysNext 63 = .ok (.iaload, 1) := by decide +kernel
theorem dX7_paysNext_64 : decode cX7_paysNext 64 = .ok (.iconst 1, 1) := by decide +kernel
theorem dX7_paysNext_65 : decode cX7_paysNext 65 = .ok (.iadd, 1) := by decide +kernel
theorem dX7_paysNext_66 : decode cX7_paysNext 66 = .ok (.iastore, 1) := by decide +kernel
theorem dX7_paysNext_67 : decode cX7_paysNext 67 = .ok (.aload_n 0, 1) := by decide +kernel
theorem dX7_paysNext_68 : decode cX7_paysNext 68 = .ok (.getfield 7, 3) := by decide +kernel
theorem dX7_paysNext_71 : decode cX7_paysNext 71 = .ok (.iload_n 1, 1) := by decide +kernel
theorem dX7_paysNext_72 : decode cX7_paysNext 72 = .ok (.invokestatic 80, 3) := by decide +kernel
theorem dX7_paysNext_75 : decode cX7_paysNext 75 = .ok (.iconst 3, 1) := by decide +kernel
theorem dX7_paysNext_76 : decode cX7_paysNext 76 = .ok (.iadd, 1) := by decide +kernel
theorem dX7_paysNext_77 : decode cX7_paysNext 77 = .ok (.dup2, 1) := by decide +kernel
theorem dX7_paysNext_78 : decode cX7_paysNext 78 = .ok (.iaload, 1) := by decide +kernel
theorem dX7_paysNext_79 : decode cX7_paysNext 79 = .ok (.iload 4, 2) := by decide +kernel
theorem dX7_paysNext_81 : decode cX7_paysNext 81 = .ok (.iload 5, 2) := by decide +kernel
theorem dX7_paysNext_83 : decode cX7_paysNext 83 = .ok (.iadd, 1) := by decide +kernel
theorem dX7_paysNext_84 : decode cX7_paysNext 84 = .ok (.iadd, 1) := by decide +kernel
theorem dX7_paysNext_85 : decode cX7_paysNext 85 = .ok (.iastore, 1) := by decide +kernel
theorem dX7_paysNext_86 : decode cX7_paysNext 86 = .ok (.aload_n 0, 1) := by decide +kernel
theorem dX7_paysNext_87 : decode cX7_paysNext 87 = .ok (.getfield 7, 3) := by decide +kernel
theorem dX7_paysNext_90 : decode cX7_paysNext 90 = .ok (.bipush 13, 2) := by decide +kernel
theorem dX7_paysNext_92 : decode cX7_paysNext 92 = .ok (.dup2, 1) := by decide +kernel
theorem dX7_paysNext_93 : decode cX7_paysNext 93 = .ok (.iaload, 1) := by decide +kernel
theorem dX7_paysNext_94 : decode cX7_paysNext 94 = .ok (.iload 4, 2) := by decide +kernel
theorem dX7_paysNext_96 : decode cX7_paysNext 96 = .ok (.iload 5, 2) := by decide +kernel
theorem dX7_paysNext_98 : decode cX7_paysNext 98 = .ok (.iadd, 1) := by decide +kernel
theorem dX7_paysNext_99 : decode cX7_paysNext 99 = .ok (.iadd, 1) := by decide +kernel
theorem dX7_paysNext_100 : decode cX7_paysNext 100 = .ok (.iastore, 1) := by decide +kernel
theorem dX7_paysNext_101 : decode cX7_paysNext 101 = .ok (.aload_n 0, 1) := by decide +kernel
theorem dX7_paysNext_102 : decode cX7_paysNext 102 = .ok (.getfield 7, 3) := by decide +kernel
theorem dX7_paysNext_105 : decode cX7_paysNext 105 = .ok (.bipush 14, 2) := by decide +kernel
theorem dX7_paysNext_107 : decode cX7_paysNext 107 = .ok (.dup2, 1) := by decide +kernel
theorem dX7_paysNext_108 : decode cX7_paysNext 108 = .ok (.iaload, 1) := by decide +kernel
theorem dX7_paysNext_109 : decode cX7_paysNext 109 = .ok (.iload 5, 2) := by decide +kernel
theorem dX7_paysNext_111 : decode cX7_paysNext 111 = .ok (.iadd, 1) := by decide +kernel
theorem dX7_paysNext_112 : decode cX7_paysNext 112 = .ok (.iastore, 1) := by decide +kernel
theorem dX7_paysNext_113 : decode cX7_paysNext 113 = .ok (.iload 4, 2) := by decide +kernel
theorem dX7_paysNext_115 : decode cX7_paysNext 115 = .ok (.iload 5, 2) := by decide +kernel
theorem dX7_paysNext_117 : decode cX7_paysNext 117 = .ok (.iadd, 1) := by decide +kernel
theorem dX7_paysNext_118 : decode cX7_paysNext 118 = .ok (.ireturn, 1) := by decide +kernel
theorem dX7_canPay_0 : decode cX7_canPay 0 = .ok (.aload_n 0, 1) := by decide +kernel
theorem dX7_canPay_1 : decode cX7_canPay 1 = .ok (.iload_n 1, 1) := by decide +kernel
theorem dX7_canPay_2 : decode cX7_canPay 2 = .ok (.invokevirtual 90, 3) := by decide +kernel
theorem dX7_canPay_5 : decode cX7_canPay 5 = .ok (.istore_n 2, 1) := by decide +kernel
theorem dX7_canPay_6 : decode cX7_canPay 6 = .ok (.iload_n 2, 1) := by decide +kernel
theorem dX7_canPay_7 : decode cX7_canPay 7 = .ok (.iconst (-1), 1) := by decide +kernel
theorem dX7_canPay_8 : decode cX7_canPay 8 = .ok (.if_icmp .eq 33, 3) := by decide +kernel
theorem dX7_canPay_11 : decode cX7_canPay 11 = .ok (.aload_n 0, 1) := by decide +kernel
theorem dX7_canPay_12 : decode cX7_canPay 12 = .ok (.iload_n 1, 1) := by decide +kernel
theorem dX7_canPay_13 : decode cX7_canPay 13 = .ok (.invokevirtual 96, 3) := by decide +kernel
theorem dX7_canPay_16 : decode cX7_canPay 16 = .ok (.ifCond .ne 25, 3) := by decide +kernel
theorem dX7_canPay_19 : decode cX7_canPay 19 = .ok (.aload_n 0, 1) := by decide +kernel
theorem dX7_canPay_20 : decode cX7_canPay 20 = .ok (.getfield 7, 3) := by decide +kernel
theorem dX7_canPay_23 : decode cX7_canPay 23 = .ok (.iconst 0, 1) := by decide +kernel
theorem dX7_canPay_24 : decode cX7_canPay 24 = .ok (.iaload, 1) := by decide +kernel
theorem dX7_canPay_25 : decode cX7_canPay 25 = .ok (.aload_n 0, 1) := by decide +kernel
theorem dX7_canPay_26 : decode cX7_canPay 26 = .ok (.iload_n 1, 1) := by decide +kernel
theorem dX7_canPay_27 : decode cX7_canPay 27 = .ok (.iload_n 2, 1) := by decide +kernel
theorem dX7_canPay_28 : decode cX7_canPay 28 = .ok (.invokevirtual 112, 3) := by decide +kernel
theorem dX7_canPay_31 : decode cX7_canPay 31 = .ok (.bipush 90, 2) := by decide +kernel
theorem dX7_canPay_33 : decode cX7_canPay 33 = .ok (.isub, 1) := by decide +kernel
theorem dX7_canPay_34 : decode cX7_canPay 34 = .ok (.if_icmp .lt 7, 3) := by decide +kernel
theorem dX7_canPay_37 : decode cX7_canPay 37 = .ok (.iconst 1, 1) := by decide +kernel
theorem dX7_canPay_38 : decode cX7_canPay 38 = .ok (.goto 4, 3) := by decide +kernel
theorem dX7_canPay_41 : decode cX7_canPay 41 = .ok (.iconst 0, 1) := by decide +kernel
theorem dX7_canPay_42 : decode cX7_canPay 42 = .ok (.ireturn, 1) := by decide +kernel
theorem dX7_isLate_0 : decode cX7_isLate 0 = .ok (.aload_n 0, 1) := by decide +kernel
theorem dX7_isLate_1 : decode cX7_isLate 1 = .ok (.getfield 7, 3) := by decide +kernel
theorem dX7_isLate_4 : decode cX7_isLate 4 = .ok (.iconst 0, 1) := by decide +kernel
theorem dX7_isLate_5 : decode cX7_isLate 5 = .ok (.iaload, 1) := by decide +kernel
theorem dX7_isLate_6 : decode cX7_isLate 6 = .ok (.aload_n 0, 1) := by decide +kernel
theorem dX7_isLate_7 : decode cX7_isLate 7 = .ok (.iload_n 1, 1) := by decide +kernel
theorem dX7_isLate_8 : decode cX7_isLate 8 = .ok (.aload_n 0, 1) := by decide +kernel
theorem dX7_isLate_9 : decode cX7_isLate 9 = .ok (.iload_n 1, 1) := by decide +kernel
theorem dX7_isLate_10 : decode cX7_isLate 10 = .ok (.invokevirtual 90, 3) := by decide +kernel
theorem dX7_isLate_13 : decode cX7_isLate 13 = .ok (.invokevirtual 112, 3) := by decide +kernel
theorem dX7_isLate_16 : decode cX7_isLate 16 = .ok (.if_icmp .le 7, 3) := by decide +kernel
theorem dX7_isLate_19 : decode cX7_isLate 19 = .ok (.iconst 1, 1) := by decide +kernel
theorem dX7_isLate_20 : decode cX7_isLate 20 = .ok (.goto 4, 3) := by decide +kernel
theorem dX7_isLate_23 : decode cX7_isLate 23 = .ok (.iconst 0, 1) := by decide +kernel
theorem dX7_isLate_24 : decode cX7_isLate 24 = .ok (.ireturn, 1) := by decide +kernel
theorem dX7_pay_0 : decode cX7_pay 0 = .ok (.aload_n 0, 1) := by decide +kernel
theorem dX7_pay_1 : decode cX7_pay 1 = .ok (.aload_n 0, 1) := by decide +kernel
theorem dX7_pay_2 : decode cX7_pay 2 = .ok (.iload_n 1, 1) := by decide +kernel
theorem dX7_pay_3 : decode cX7_pay 3 = .ok (.invokevirtual 115, 3) := by decide +kernel
theorem dX7_pay_6 : decode cX7_pay 6 = .ok (.ifCond .ne 7, 3) := by decide +kernel
theorem dX7_pay_9 : decode cX7_pay 9 = .ok (.iconst 1, 1) := by decide +kernel
theorem dX7_pay_10 : decode cX7_pay 10 = .ok (.goto 16, 3) := by decide +kernel
theorem dX7_pay_13 : decode cX7_pay 13 = .ok (.aload_n 0, 1) := by decide +kernel
theorem dX7_pay_14 : decode cX7_pay 14 = .ok (.iload_n 1, 1) := by decide +kernel
theorem dX7_pay_15 : decode cX7_pay 15 = .ok (.invokevirtual 118, 3) := by decide +kernel
theorem dX7_pay_18 : decode cX7_pay 18 = .ok (.ifCond .eq 7, 3) := by decide +kernel
theorem dX7_pay_21 : decode cX7_pay 21 = .ok (.iconst 0, 1) := by decide +kernel
theorem dX7_pay_22 : decode cX7_pay 22 = .ok (.goto 4, 3) := by decide +kernel
theorem dX7_pay_25 : decode cX7_pay 25 = .ok (.iconst 2, 1) := by decide +kernel
theorem dX7_pay_26 : decode cX7_pay 26 = .ok (.invokevirtual 35, 3) := by decide +kernel
theorem dX7_pay_29 : decode cX7_pay 29 = .ok (.ifCond .eq 5, 3) := by decide +kernel
theorem dX7_pay_32 : decode cX7_pay 32 = .ok (.iconst 0, 1) := by decide +kernel
theorem dX7_pay_33 : decode cX7_pay 33 = .ok (.ireturn, 1) := by decide +kernel
theorem dX7_pay_34 : decode cX7_pay 34 = .ok (.aload_n 0, 1) := by decide +kernel
theorem dX7_pay_35 : decode cX7_pay 35 = .ok (.invokevirtual 73, 3) := by decide +kernel
theorem dX7_pay_38 : decode cX7_pay 38 = .ok (.aload_n 0, 1) := by decide +kernel
theorem dX7_pay_39 : decode cX7_pay 39 = .ok (.iload_n 1, 1) := by decide +kernel
theorem dX7_pay_40 : decode cX7_pay 40 = .ok (.aload_n 0, 1) := by decide +kernel
theorem dX7_pay_41 : decode cX7_pay 41 = .ok (.iload_n 1, 1) := by decide +kernel
theorem dX7_pay_42 : decode cX7_pay 42 = .ok (.invokevirtual 121, 3) := by decide +kernel
theorem dX7_pay_45 : decode cX7_pay 45 = .ok (.invokevirtual 124, 3) := by decide +kernel
theorem dX7_pay_48 : decode cX7_pay 48 = .ok (.ireturn, 1) := by decide +kernel
theorem dX7_payAll_0 : decode cX7_payAll 0 = .ok (.aload_n 0, 1) := by decide +kernel
theorem dX7_payAll_1 : decode cX7_payAll 1 = .ok (.iconst 0, 1) := by decide +kernel
theorem dX7_payAll_2 : decode cX7_payAll 2 = .ok (.putfield 28, 3) := by decide +kernel
theorem dX7_payAll_5 : decode cX7_payAll 5 = .ok (.aload_n 0, 1) := by decide +kernel
theorem dX7_payAll_6 : decode cX7_payAll 6 = .ok (.invokevirtual 73, 3) := by decide +kernel
theorem dX7_payAll_9 : decode cX7_payAll 9 = .ok (.iconst 0, 1) := by decide +kernel
theorem dX7_payAll_10 : decode cX7_payAll 10 = .ok (.istore_n 1, 1) := by decide +kernel
theorem dX7_payAll_11 : decode cX7_payAll 11 = .ok (.iconst 0, 1) := by decide +kernel
theorem dX7_payAll_12 : decode cX7_payAll 12 = .ok (.istore_n 2, 1) := by decide +kernel
theorem dX7_payAll_13 : decode cX7_payAll 13 = .ok (.iload_n 2, 1) := by decide +kernel
theorem dX7_payAll_14 : decode cX7_payAll 14 = .ok (.aload_n 0, 1) := by decide +kernel
theorem dX7_payAll_15 : decode cX7_payAll 15 = .ok (.getfield 7, 3) := by decide +kernel
theorem dX7_payAll_18 : decode cX7_payAll 18 = .ok (.iconst 1, 1) := by decide +kernel
theorem dX7_payAll_19 : decode cX7_payAll 19 = .ok (.iaload, 1) := by decide +kernel
theorem dX7_payAll_20 : decode cX7_payAll 20 = .ok (.if_icmp .ge 34, 3) := by decide +kernel
theorem dX7_payAll_23 : decode cX7_payAll 23 = .ok (.iload_n 1, 1) := by decide +kernel
theorem dX7_payAll_24 : decode cX7_payAll 24 = .ok (.aload_n 0, 1) := by decide +kernel
theorem dX7_payAll_25 : decode cX7_payAll 25 = .ok (.iload_n 2, 1) := by decide +kernel
theorem dX7_payAll_26 : decode cX7_payAll 26 = .ok (.invokevirtual 118, 3) := by decide +kernel
theorem dX7_payAll_29 : decode cX7_payAll 29 = .ok (.ifCond .eq 16, 3) := by decide +kernel
theorem dX7_payAll_32 : decode cX7_payAll 32 = .ok (.aload_n 0, 1) := by decide +kernel
theorem dX7_payAll_33 : decode cX7_payAll 33 = .ok (.iload_n 2, 1) := by decide +kernel
theorem dX7_payAll_34 : decode cX7_payAll 34 = .ok (.aload_n 0, 1) := by decide +kernel
theorem dX7_payAll_35 : decode cX7_payAll 35 = .ok (.iload_n 2, 1) := by decide +kernel
theorem dX7_payAll_36 : decode cX7_payAll 36 = .ok (.invokevirtual 121, 3) := by decide +kernel
theorem dX7_payAll_39 : decode cX7_payAll 39 = .ok (.invokevirtual 124, 3) := by decide +kernel
theorem dX7_payAll_42 : decode cX7_payAll 42 = .ok (.goto 4, 3) := by decide +kernel
theorem dX7_payAll_45 : decode cX7_payAll 45 = .ok (.iconst 0, 1) := by decide +kernel
theorem dX7_payAll_46 : decode cX7_payAll 46 = .ok (.iadd, 1) := by decide +kernel
theorem dX7_payAll_47 : decode cX7_payAll 47 = .ok (.istore_n 1, 1) := by decide +kernel
theorem dX7_payAll_48 : decode cX7_payAll 48 = .ok (.iinc 2 1, 3) := by decide +kernel
theorem dX7_payAll_51 : decode cX7_payAll 51 = .ok (.goto (-38), 3) := by decide +kernel
theorem dX7_payAll_54 : decode cX7_payAll 54 = .ok (.iload_n 1, 1) := by decide +kernel
theorem dX7_payAll_55 : decode cX7_payAll 55 = .ok (.ireturn, 1) := by decide +kernel
theorem dX7_canRevive_0 : decode cX7_canRevive 0 = .ok (.aload_n 0, 1) := by decide +kernel
theorem dX7_canRevive_1 : decode cX7_canRevive 1 = .ok (.iload_n 1, 1) := by decide +kernel
theorem dX7_canRevive_2 : decode cX7_canRevive 2 = .ok (.invokevirtual 96, 3) := by decide +kernel
theorem dX7_canRevive_5 : decode cX7_canRevive 5 = .ok (.ifCond .eq 49, 3) := by decide +kernel
theorem dX7_canRevive_8 : decode cX7_canRevive 8 = .ok (.aload_n 0, 1) := by decide +kernel
theorem dX7_canRevive_9 : decode cX7_canRevive 9 = .ok (.getfield 7, 3) := by decide +kernel
theorem dX7_canRevive_12 : decode cX7_canRevive 12 = .ok (.iconst 0, 1) := by decide +kernel
theorem dX7_canRevive_13 : decode cX7_canRevive 13 = .ok (.iaload, 1) := by decide +kernel
theorem dX7_canRevive_14 : decode cX7_canRevive 14 = .ok (.aload_n 0, 1) := by decide +kernel
theorem dX7_canRevive_15 : decode cX7_canRevive 15 = .ok (.iload_n 1, 1) := by decide +kernel
theorem dX7_canRevive_16 : decode cX7_canRevive 16 = .ok (.invokevirtual 99, 3) := by decide +kernel
theorem dX7_canRevive_19 : decode cX7_canRevive 19 = .ok (.if_icmp .gt 35, 3) := by decide +kernel
theorem dX7_canRevive_22 : decode cX7_canRevive 22 = .ok (.aload_n 0, 1) := by decide +kernel
theorem dX7_canRevive_23 : decode cX7_canRevive 23 = .ok (.getfield 7, 3) := by decide +kernel
theorem dX7_canRevive_26 : decode cX7_canRevive 26 = .ok (.iconst 0, 1) := by decide +kernel
theorem dX7_canRevive_27 : decode cX7_canRevive 27 = .ok (.iaload, 1) := by decide +kernel
theorem dX7_canRevive_28 : decode cX7_canRevive 28 = .ok (.aload_n 0, 1) := by decide +kernel
theorem dX7_canRevive_29 : decode cX7_canRevive 29 = .ok (.aload_n 0, 1) := by decide +kernel
theorem dX7_canRevive_30 : decode cX7_canRevive 30 = .ok (.iload_n 1, 1) := by decide +kernel
theorem dX7_canRevive_31 : decode cX7_canRevive 31 = .ok (.aload_n 0, 1) := by decide +kernel
theorem dX7_canRevive_32 : decode cX7_canRevive 32 = .ok (.iload_n 1, 1) := by decide +kernel
theorem dX7_canRevive_33 : decode cX7_canRevive 33 = .ok (.invokevirtual 90, 3) := by decide +kernel
theorem dX7_canRevive_36 : decode cX7_canRevive 36 = .ok (.invokevirtual 93, 3) := by decide +kernel
theorem dX7_canRevive_39 : decode cX7_canRevive 39 = .ok (.bipush 12, 2) := by decide +kernel
theorem dX7_canRevive_41 : decode cX7_canRevive 41 = .ok (.invokestatic 67, 3) := by decide +kernel
theorem dX7_canRevive_44 : decode cX7_canRevive 44 = .ok (.invokevirtual 70, 3) := by decide +kernel
theorem dX7_canRevive_47 : decode cX7_canRevive 47 = .ok (.if_icmp .gt 7, 3) := by decide +kernel
theorem dX7_canRevive_50 : decode cX7_canRevive 50 = .ok (.iconst 1, 1) := by decide +kernel
theorem dX7_canRevive_51 : decode cX7_canRevive 51 = .ok (.goto 4, 3) := by decide +kernel
theorem dX7_canRevive_54 : decode cX7_canRevive 54 = .ok (.iconst 0, 1) := by decide +kernel
theorem dX7_canRevive_55 : decode cX7_canRevive 55 = .ok (.ireturn, 1) := by decide +kernel
theorem dX7_revive_0 : decode cX7_revive 0 = .ok (.aload_n 0, 1) := by decide +kernel
theorem dX7_revive_1 : decode cX7_revive 1 = .ok (.aload_n 0, 1) := by decide +kernel
theorem dX7_revive_2 : decode cX7_revive 2 = .ok (.iload_n 1, 1) := by decide +kernel
theorem dX7_revive_3 : decode cX7_revive 3 = .ok (.invokevirtual 115, 3) := by decide +kernel
theorem dX7_revive_6 : decode cX7_revive 6 = .ok (.ifCond .ne 7, 3) := by decide +kernel
theorem dX7_revive_9 : decode cX7_revive 9 = .ok (.iconst 1, 1) := by decide +kernel
theorem dX7_revive_10 : decode cX7_revive 10 = .ok (.goto 16, 3) := by decide +kernel
theorem dX7_revive_13 : decode cX7_revive 13 = .ok (.aload_n 0, 1) := by decide +kernel
theorem dX7_revive_14 : decode cX7_revive 14 = .ok (.iload_n 1, 1) := by decide +kernel
theorem dX7_revive_15 : decode cX7_revive 15 = .ok (.invokevirtual 127, 3) := by decide +kernel
theorem dX7_revive_18 : decode cX7_revive 18 = .ok (.ifCond .eq 7, 3) := by decide +kernel
theorem dX7_revive_21 : decode cX7_revive 21 = .ok (.iconst 0, 1) := by decide +kernel
theorem dX7_revive_22 : decode cX7_revive 22 = .ok (.goto 4, 3) := by decide +kernel
theorem dX7_revive_25 : decode cX7_revive 25 = .ok (.iconst 2, 1) := by decide +kernel
theorem dX7_revive_26 : decode cX7_revive 26 = .ok (.invokevirtual 35, 3) := by decide +kernel
theorem dX7_revive_29 : decode cX7_revive 29 = .ok (.ifCond .eq 5, 3) := by decide +kernel
theorem dX7_revive_32 : decode cX7_revive 32 = .ok (.iconst 0, 1) := by decide +kernel
theorem dX7_revive_33 : decode cX7_revive 33 = .ok (.ireturn, 1) := by decide +kernel
theorem dX7_revive_34 : decode cX7_revive 34 = .ok (.aload_n 0, 1) := by decide +kernel
theorem dX7_revive_35 : decode cX7_revive 35 = .ok (.invokevirtual 73, 3) := by decide +kernel
theorem dX7_revive_38 : decode cX7_revive 38 = .ok (.iload_n 1, 1) := by decide +kernel
theorem dX7_revive_39 : decode cX7_revive 39 = .ok (.invokestatic 80, 3) := by decide +kernel
theorem dX7_revive_42 : decode cX7_revive 42 = .ok (.istore_n 2, 1) := by decide +kernel
theorem dX7_revive_43 : decode cX7_revive 43 = .ok (.aload_n 0, 1) := by decide +kernel
theorem dX7_revive_44 : decode cX7_revive 44 = .ok (.getfield 7, 3) := by decide +kernel
theorem dX7_revive_47 : decode cX7_revive 47 = .ok (.bipush 12, 2) := by decide +kernel
theorem dX7_revive_49 : decode cX7_revive 49 = .ok (.iaload, 1) := by decide +kernel
theorem dX7_revive_50 : decode cX7_revive 50 = .ok (.istore_n 3, 1) := by decide +kernel
theorem dX7_revive_51 : decode cX7_revive 51 = .ok (.aload_n 0, 1) := by decide +kernel
theorem dX7_revive_52 : decode cX7_revive 52 = .ok (.getfield 7, 3) := by decide +kernel
theorem dX7_revive_55 : decode cX7_revive 55 = .ok (.iload_n 2, 1) := by decide +kernel
theorem dX7_revive_56 : decode cX7_revive 56 = .ok (.iconst 3, 1) := by decide +kernel
theorem dX7_revive_57 : decode cX7_revive 57 = .ok (.iadd, 1) := by decide +kernel
theorem dX7_revive_58 : decode cX7_revive 58 = .ok (.dup2, 1) := by decide +kernel
theorem dX7_revive_59 : decode cX7_revive 59 = .ok (.iaload, 1) := by decide +kernel
theorem dX7_revive_60 : decode cX7_revive 60 = .ok (.iload_n 3, 1) := by decide +kernel
theorem dX7_revive_61 : decode cX7_revive 61 = .ok (.iadd, 1) := by decide +kernel
theorem dX7_revive_62 : decode cX7_revive 62 = .ok (.iastore, 1) := by decide +kernel
theorem dX7_revive_63 : decode cX7_revive 63 = .ok (.aload_n 0, 1) := by decide +kernel
theorem dX7_revive_64 : decode cX7_revive 64 = .ok (.getfield 7, 3) := by decide +kernel
theorem dX7_revive_67 : decode cX7_revive 67 = .ok (.bipush 13, 2) := by decide +kernel
theorem dX7_revive_69 : decode cX7_revive 69 = .ok (.dup2, 1) := by decide +kernel
theorem dX7_revive_70 : decode cX7_revive 70 = .ok (.iaload, 1) := by decide +kernel
theorem dX7_revive_71 : decode cX7_revive 71 = .ok (.iload_n 3, 1) := by decide +kernel
theorem dX7_revive_72 : decode cX7_revive 72 = .ok (.iadd, 1) := by decide +kernel
theorem dX7_revive_73 : decode cX7_revive 73 = .ok (.iastore, 1) := by decide +kernel
theorem dX7_revive_74 : decode cX7_revive 74 = .ok (.aload_n 0, 1) := by decide +kernel
theorem dX7_revive_75 : decode cX7_revive 75 = .ok (.getfield 7, 3) := by decide +kernel
theorem dX7_revive_78 : decode cX7_revive 78 = .ok (.bipush 15, 2) := by decide +kernel
theorem dX7_revive_80 : decode cX7_revive 80 = .ok (.dup2, 1) := by decide +kernel
theorem dX7_revive_81 : decode cX7_revive 81 = .ok (.iaload, 1) := by decide +kernel
theorem dX7_revive_82 : decode cX7_revive 82 = .ok (.iload_n 3, 1) := by decide +kernel
theorem dX7_revive_83 : decode cX7_revive 83 = .ok (.iadd, 1) := by decide +kernel
theorem dX7_revive_84 : decode cX7_revive 84 = .ok (.iastore, 1) := by decide +kernel
theorem dX7_revive_85 : decode cX7_revive 85 = .ok (.aload_n 0, 1) := by decide +kernel
theorem dX7_revive_86 : decode cX7_revive 86 = .ok (.getfield 7, 3) := by decide +kernel
theorem dX7_revive_89 : decode cX7_revive 89 = .ok (.iload_n 2, 1) := by decide +kernel
theorem dX7_revive_90 : decode cX7_revive 90 = .ok (.iconst 4, 1) := by decide +kernel
theorem dX7_revive_91 : decode cX7_revive 91 = .ok (.iadd, 1) := by decide +kernel
theorem dX7_revive_92 : decode cX7_revive 92 = .ok (.dup2, 1) := by decide +kernel
theorem dX7_revive_93 : decode cX7_revive 93 = .ok (.iaload, 1) := by decide +kernel
theorem dX7_revive_94 : decode cX7_revive 94 = .ok (.iconst 1, 1) := by decide +kernel
theorem dX7_revive_95 : decode cX7_revive 95 = .ok (.iadd, 1) := by decide +kernel
theorem dX7_revive_96 : decode cX7_revive 96 = .ok (.iastore, 1) := by decide +kernel
theorem dX7_revive_97 : decode cX7_revive 97 = .ok (.aload_n 0, 1) := by decide +kernel
theorem dX7_revive_98 : decode cX7_revive 98 = .ok (.iload_n 1, 1) := by decide +kernel
theorem dX7_revive_99 : decode cX7_revive 99 = .ok (.aload_n 0, 1) := by decide +kernel
theorem dX7_revive_100 : decode cX7_revive 100 = .ok (.iload_n 1, 1) := by decide +kernel
theorem dX7_revive_101 : decode cX7_revive 101 = .ok (.invokevirtual 90, 3) := by decide +kernel
theorem dX7_revive_104 : decode cX7_revive 104 = .ok (.invokevirtual 112, 3) := by decide +kernel
theorem dX7_revive_107 : decode cX7_revive 107 = .ok (.istore 4, 2) := by decide +kernel
theorem dX7_revive_109 : decode cX7_revive 109 = .ok (.iconst 0, 1) := by decide +kernel
theorem dX7_revive_110 : decode cX7_revive 110 = .ok (.istore 5, 2) := by decide +kernel
theorem dX7_revive_112 : decode cX7_revive 112 = .ok (.iload 5, 2) := by decide +kernel
theorem dX7_revive_114 : decode cX7_revive 114 = .ok (.bipush 10, 2) := by decide +kernel
theorem dX7_revive_116 : decode cX7_revive 116 = .ok (.if_icmp .ge 74, 3) := by decide +kernel
theorem dX7_revive_119 : decode cX7_revive 119 = .ok (.aload_n 0, 1) := by decide +kernel
theorem dX7_revive_120 : decode cX7_revive 120 = .ok (.iload_n 1, 1) := by decide +kernel
theorem dX7_revive_121 : decode cX7_revive 121 = .ok (.bipush 25, 2) := by decide +kernel
theorem dX7_revive_123 : decode cX7_revive 123 = .ok (.iload 5, 2) := by decide +kernel
theorem dX7_revive_125 : decode cX7_revive 125 = .ok (.iadd, 1) := by decide +kernel
theorem dX7_revive_126 : decode cX7_revive 126 = .ok (.invokevirtual 87, 3) := by decide +kernel
theorem dX7_revive_129 : decode cX7_revive 129 = .ok (.iload 4, 2) := by decide +kernel
theorem dX7_revive_131 : decode cX7_revive 131 = .ok (.if_icmp .le 26, 3) := by decide +kernel
theorem dX7_revive_134 : decode cX7_revive 134 = .ok (.aload_n 0, 1) := by decide +kernel
theorem dX7_revive_135 : decode cX7_revive 135 = .ok (.iload_n 1, 1) := by decide +kernel
theorem dX7_revive_136 : decode cX7_revive 136 = .ok (.bipush 25, 2) := by decide +kernel
theorem dX7_revive_138 : decode cX7_revive 138 = .ok (.iload 5, 2) := by decide +kernel
theorem dX7_revive_140 : decode cX7_revive 140 = .ok (.iadd, 1) := by decide +kernel
theorem dX7_revive_141 : decode cX7_revive 141 = .ok (.invokevirtual 87, 3) := by decide +kernel
theorem dX7_revive_144 : decode cX7_revive 144 = .ok (.aload_n 0, 1) := by decide +kernel
theorem dX7_revive_145 : decode cX7_revive 145 = .ok (.getfield 7, 3) := by decide +kernel
theorem dX7_revive_148 : decode cX7_revive 148 = .ok (.iconst 0, 1) := by decide +kernel
theorem dX7_revive_149 : decode cX7_revive 149 = .ok (.iaload, 1) := by decide +kernel
theorem dX7_revive_150 : decode cX7_revive 150 = .ok (.if_icmp .ge 7, 3) := by decide +kernel
theorem dX7_revive_153 : decode cX7_revive 153 = .ok (.iconst 1, 1) := by decide +kernel
theorem dX7_revive_154 : decode cX7_revive 154 = .ok (.goto 4, 3) := by decide +kernel
theorem dX7_revive_157 : decode cX7_revive 157 = .ok (.iconst 0, 1) := by decide +kernel
theorem dX7_revive_158 : decode cX7_revive 158 = .ok (.istore 6, 2) := by decide +kernel
theorem dX7_revive_160 : decode cX7_revive 160 = .ok (.aload_n 0, 1) := by decide +kernel
theorem dX7_revive_161 : decode cX7_revive 161 = .ok (.getfield 7, 3) := by decide +kernel
theorem dX7_revive_164 : decode cX7_revive 164 = .ok (.iload_n 2, 1) := by decide +kernel
theorem dX7_revive_165 : decode cX7_revive 165 = .ok (.iconst 5, 1) := by decide +kernel
theorem dX7_revive_166 : decode cX7_revive 166 = .ok (.iadd, 1) := by decide +kernel
theorem dX7_revive_167 : decode cX7_revive 167 = .ok (.dup2, 1) := by decide +kernel
theorem dX7_revive_168 : decode cX7_revive 168 = .ok (.iaload, 1) := by decide +kernel
theorem dX7_revive_169 : decode cX7_revive 169 = .ok (.iload 6, 2) := by decide +kernel
theorem dX7_revive_171 : decode cX7_revive 171 = .ok (.ifCond .eq 10, 3) := by decide +kernel
theorem dX7_revive_174 : decode cX7_revive 174 = .ok (.iconst 1, 1) := by decide +kernel
theorem dX7_revive_175 : decode cX7_revive 175 = .ok (.iload 5, 2) := by decide +kernel
theorem dX7_revive_177 : decode cX7_revive 177 = .ok (.ishl, 1) := by decide +kernel
theorem dX7_revive_178 : decode cX7_revive 178 = .ok (.goto 4, 3) := by decide +kernel
theorem dX7_revive_181 : decode cX7_revive 181 = .ok (.iconst 0, 1) := by decide +kernel
theorem dX7_revive_182 : decode cX7_revive 182 = .ok (.ior, 1) := by decide +kernel
theorem dX7_revive_183 : decode cX7_revive 183 = .ok (.iastore, 1) := by decide +kernel
theorem dX7_revive_184 : decode cX7_revive 184 = .ok (.iinc 5 1, 3) := by decide +kernel
theorem dX7_revive_187 : decode cX7_revive 187 = .ok (.goto (-75), 3) := by decide +kernel
theorem dX7_revive_190 : decode cX7_revive 190 = .ok (.aload_n 0, 1) := by decide +kernel
theorem dX7_revive_191 : decode cX7_revive 191 = .ok (.iload_n 1, 1) := by decide +kernel
theorem dX7_revive_192 : decode cX7_revive 192 = .ok (.invokevirtual 96, 3) := by decide +kernel
theorem dX7_revive_195 : decode cX7_revive 195 = .ok (.ifCond .eq 15, 3) := by decide +kernel
theorem dX7_revive_198 : decode cX7_revive 198 = .ok (.iload_n 3, 1) := by decide +kernel
theorem dX7_revive_199 : decode cX7_revive 199 = .ok (.aload_n 0, 1) := by decide +kernel
theorem dX7_revive_200 : decode cX7_revive 200 = .ok (.iload_n 1, 1) := by decide +kernel
theorem dX7_revive_201 : decode cX7_revive 201 = .ok (.iconst 1, 1) := by decide +kernel
theorem dX7_revive_202 : decode cX7_revive 202 = .ok (.invokevirtual 124, 3) := by decide +kernel
theorem dX7_revive_205 : decode cX7_revive 205 = .ok (.iadd, 1) := by decide +kernel
theorem dX7_revive_206 : decode cX7_revive 206 = .ok (.istore_n 3, 1) := by decide +kernel
theorem dX7_revive_207 : decode cX7_revive 207 = .ok (.goto (-17), 3) := by decide +kernel
theorem dX7_revive_210 : decode cX7_revive 210 = .ok (.iload_n 3, 1) := by decide +kernel
theorem dX7_revive_211 : decode cX7_revive 211 = .ok (.ireturn, 1) := by decide +kernel
theorem dX7_usersOf_0 : decode cX7_usersOf 0 = .ok (.iconst 0, 1) := by decide +kernel
theorem dX7_usersOf_1 : decode cX7_usersOf 1 = .ok (.istore_n 2, 1) := by decide +kernel
theorem dX7_usersOf_2 : decode cX7_usersOf 2 = .ok (.iconst 0, 1) := by decide +kernel
theorem dX7_usersOf_3 : decode cX7_usersOf 3 = .ok (.istore_n 3, 1) := by decide +kernel
theorem dX7_usersOf_4 : decode cX7_usersOf 4 = .ok (.iload_n 3, 1) := by decide +kernel
theorem dX7_usersOf_5 : decode cX7_usersOf 5 = .ok (.bipush 10, 2) := by decide +kernel
theorem dX7_usersOf_7 : decode cX7_usersOf 7 = .ok (.if_icmp .ge 30, 3) := by decide +kernel
theorem dX7_usersOf_10 : decode cX7_usersOf 10 = .ok (.iload_n 2, 1) := by decide +kernel
theorem dX7_usersOf_11 : decode cX7_usersOf 11 = .ok (.aload_n 0, 1) := by decide +kernel
theorem dX7_usersOf_12 : decode cX7_usersOf 12 = .ok (.iload_n 1, 1) := by decide +kernel
theorem dX7_usersOf_13 : decode cX7_usersOf 13 = .ok (.bipush 25, 2) := by decide +kernel
theorem dX7_usersOf_15 : decode cX7_usersOf 15 = .ok (.iload_n 3, 1) := by decide +kernel
theorem dX7_usersOf_16 : decode cX7_usersOf 16 = .ok (.iadd, 1) := by decide +kernel
theorem dX7_usersOf_17 : decode cX7_usersOf 17 = .ok (.invokevirtual 87, 3) := by decide +kernel
theorem dX7_usersOf_20 : decode cX7_usersOf 20 = .ok (.iconst (-1), 1) := by decide +kernel
theorem dX7_usersOf_21 : decode cX7_usersOf 21 = .ok (.if_icmp .ne 7, 3) := by decide +kernel
theorem dX7_usersOf_24 : decode cX7_usersOf 24 = .ok (.iconst 0, 1) := by decide +kernel
theorem dX7_usersOf_25 : decode cX7_usersOf 25 = .ok (.goto 4, 3) := by decide +kernel
theorem dX7_usersOf_28 : decode cX7_usersOf 28 = .ok (.iconst 1, 1) := by decide +kernel
theorem dX7_usersOf_29 : decode cX7_usersOf 29 = .ok (.iadd, 1) := by decide +kernel
theorem dX7_usersOf_30 : decode cX7_usersOf 30 = .ok (.istore_n 2, 1) := by decide +kernel
theorem dX7_usersOf_31 : decode cX7_usersOf 31 = .ok (.iinc 3 1, 3) := by decide +kernel
theorem dX7_usersOf_34 : decode cX7_usersOf 34 = .ok (.goto (-30), 3) := by decide +kernel
theorem dX7_usersOf_37 : decode cX7_usersOf 37 = .ok (.iload_n 2, 1) := by decide +kernel
theorem dX7_usersOf_38 : decode cX7_usersOf 38 = .ok (.ireturn, 1) := by decide +kernel
theorem dX7_isUser_0 : decode cX7_isUser 0 = .ok (.iload_n 0, 1) := by decide +kernel
theorem dX7_isUser_1 : decode cX7_isUser 1 = .ok (.iconst 0, 1) := by decide +kernel
theorem dX7_isUser_2 : decode cX7_isUser 2 = .ok (.bipush 9, 2) := by decide +kernel
theorem dX7_isUser_4 : decode cX7_isUser 4 = .ok (.invokestatic 63, 3) := by decide +kernel
theorem dX7_isUser_7 : decode cX7_isUser 7 = .ok (.ireturn, 1) := by decide +kernel
theorem dX7_use_0 : decode cX7_use 0 = .ok (.aload_n 0, 1) := by decide +kernel
theorem dX7_use_1 : decode cX7_use 1 = .ok (.aload_n 0, 1) := by decide +kernel
theorem dX7_use_2 : decode cX7_use 2 = .ok (.iload_n 1, 1) := by decide +kernel
theorem dX7_use_3 : decode cX7_use 3 = .ok (.invokevirtual 115, 3) := by decide +kernel
theorem dX7_use_6 : decode cX7_use 6 = .ok (.ifCond .ne 7, 3) := by decide +kernel
theorem dX7_use_9 : decode cX7_use 9 = .ok (.iconst 1, 1) := by decide +kernel
theorem dX7_use_10 : decode cX7_use 10 = .ok (.goto 54, 3) := by decide +kernel
theorem dX7_use_13 : decode cX7_use 13 = .ok (.iload_n 2, 1) := by decide +kernel
theorem dX7_use_14 : decode cX7_use 14 = .ok (.invokestatic 130, 3) := by decide +kernel
theorem dX7_use_17 : decode cX7_use 17 = .ok (.ifCond .ne 7, 3) := by decide +kernel
theorem dX7_use_20 : decode cX7_use 20 = .ok (.iconst 2, 1) := by decide +kernel
theorem dX7_use_21 : decode cX7_use 21 = .ok (.goto 43, 3) := by decide +kernel
theorem dX7_use_24 : decode cX7_use 24 = .ok (.aload_n 0, 1) := by decide +kernel
theorem dX7_use_25 : decode cX7_use 25 = .ok (.iload_n 1, 1) := by decide +kernel
theorem dX7_use_26 : decode cX7_use 26 = .ok (.invokevirtual 133, 3) := by decide +kernel
theorem dX7_use_29 : decode cX7_use 29 = .ok (.ifCond .ne 30, 3) := by decide +kernel
theorem dX7_use_32 : decode cX7_use 32 = .ok (.aload_n 0, 1) := by decide +kernel
theorem dX7_use_33 : decode cX7_use 33 = .ok (.getfield 7, 3) := by decide +kernel
theorem dX7_use_36 : decode cX7_use 36 = .ok (.iconst 0, 1) := by decide +kernel
theorem dX7_use_37 : decode cX7_use 37 = .ok (.iaload, 1) := by decide +kernel
theorem dX7_use_38 : decode cX7_use 38 = .ok (.aload_n 0, 1) := by decide +kernel
theorem dX7_use_39 : decode cX7_use 39 = .ok (.iload_n 1, 1) := by decide +kernel
theorem dX7_use_40 : decode cX7_use 40 = .ok (.invokevirtual 99, 3) := by decide +kernel
theorem dX7_use_43 : decode cX7_use 43 = .ok (.if_icmp .gt 16, 3) := by decide +kernel
theorem dX7_use_46 : decode cX7_use 46 = .ok (.aload_n 0, 1) := by decide +kernel
theorem dX7_use_47 : decode cX7_use 47 = .ok (.iload_n 1, 1) := by decide +kernel
theorem dX7_use_48 : decode cX7_use 48 = .ok (.bipush 25, 2) := by decide +kernel
theorem dX7_use_50 : decode cX7_use 50 = .ok (.iload_n 2, 1) := by decide +kernel
theorem dX7_use_51 : decode cX7_use 51 = .ok (.iadd, 1) := by decide +kernel
theorem dX7_use_52 : decode cX7_use 52 = .ok (.invokevirtual 87, 3) := by decide +kernel
theorem dX7_use_55 : decode cX7_use 55 = .ok (.iconst (-1), 1) := by decide +kernel
theorem dX7_use_56 : decode cX7_use 56 = .ok (.if_icmp .eq 7, 3) := by decide +kernel
theorem dX7_use_59 : decode cX7_use 59 = .ok (.iconst 3, 1) := by decide +kernel
theorem dX7_use_60 : decode cX7_use 60 = .ok (.goto 4, 3) := by decide +kernel
theorem dX7_use_63 : decode cX7_use 63 = .ok (.iconst 0, 1) := by decide +kernel
theorem dX7_use_64 : decode cX7_use 64 = .ok (.invokevirtual 35, 3) := by decide +kernel
theorem dX7_use_67 : decode cX7_use 67 = .ok (.ifCond .eq 5, 3) := by decide +kernel
theorem dX7_use_70 : decode cX7_use 70 = .ok (.iconst 0, 1) := by decide +kernel
theorem dX7_use_71 : decode cX7_use 71 = .ok (.ireturn, 1) := by decide +kernel
theorem dX7_use_72 : decode cX7_use 72 = .ok (.aload_n 0, 1) := by decide +kernel
theorem dX7_use_73 : decode cX7_use 73 = .ok (.invokevirtual 73, 3) := by decide +kernel
theorem dX7_use_76 : decode cX7_use 76 = .ok (.aload_n 0, 1) := by decide +kernel
theorem dX7_use_77 : decode cX7_use 77 = .ok (.getfield 7, 3) := by decide +kernel
theorem dX7_use_80 : decode cX7_use 80 = .ok (.iload_n 1, 1) := by decide +kernel
theorem dX7_use_81 : decode cX7_use 81 = .ok (.invokestatic 80, 3) := by decide +kernel
theorem dX7_use_84 : decode cX7_use 84 = .ok (.bipush 25, 2) := by decide +kernel
theorem dX7_use_86 : decode cX7_use 86 = .ok (.iadd, 1) := by decide +kernel
theorem dX7_use_87 : decode cX7_use 87 = .ok (.iload_n 2, 1) := by decide +kernel
theorem dX7_use_88 : decode cX7_use 88 = .ok (.iadd, 1) := by decide +kernel
theorem dX7_use_89 : decode cX7_use 89 = .ok (.aload_n 0, 1) := by decide +kernel
theorem dX7_use_90 : decode cX7_use 90 = .ok (.getfield 7, 3) := by decide +kernel
theorem dX7_use_93 : decode cX7_use 93 = .ok (.iconst 0, 1) := by decide +kernel
theorem dX7_use_94 : decode cX7_use 94 = .ok (.iaload, 1) := by decide +kernel
theorem dX7_use_95 : decode cX7_use 95 = .ok (.iastore, 1) := by decide +kernel
theorem dX7_use_96 : decode cX7_use 96 = .ok (.aload_n 0, 1) := by decide +kernel
theorem dX7_use_97 : decode cX7_use 97 = .ok (.iload_n 1, 1) := by decide +kernel
theorem dX7_use_98 : decode cX7_use 98 = .ok (.invokevirtual 136, 3) := by decide +kernel
theorem dX7_use_101 : decode cX7_use 101 = .ok (.ireturn, 1) := by decide +kernel
theorem dX7_setFees_0 : decode cX7_setFees 0 = .ok (.aload_n 0, 1) := by decide +kernel
theorem dX7_setFees_1 : decode cX7_setFees 1 = .ok (.iload_n 1, 1) := by decide +kernel
theorem dX7_setFees_2 : decode cX7_setFees 2 = .ok (.iconst 0, 1) := by decide +kernel
theorem dX7_setFees_3 : decode cX7_setFees 3 = .ok (.sipush 9999, 3) := by decide +kernel
theorem dX7_setFees_6 : decode cX7_setFees 6 = .ok (.invokestatic 63, 3) := by decide +kernel
theorem dX7_setFees_9 : decode cX7_setFees 9 = .ok (.ifCond .eq 40, 3) := by decide +kernel
theorem dX7_setFees_12 : decode cX7_setFees 12 = .ok (.iload_n 2, 1) := by decide +kernel
theorem dX7_setFees_13 : decode cX7_setFees 13 = .ok (.iconst 0, 1) := by decide +kernel
theorem dX7_setFees_14 : decode cX7_setFees 14 = .ok (.sipush 999, 3) := by decide +kernel
theorem dX7_setFees_17 : decode cX7_setFees 17 = .ok (.invokestatic 63, 3) := by decide +kernel
theorem dX7_setFees_20 : decode cX7_setFees 20 = .ok (.ifCond .eq 29, 3) := by decide +kernel
theorem dX7_setFees_23 : decode cX7_setFees 23 = .ok (.iload_n 3, 1) := by decide +kernel
theorem dX7_setFees_24 : decode cX7_setFees 24 = .ok (.iconst 0, 1) := by decide +kernel
theorem dX7_setFees_25 : decode cX7_setFees 25 = .ok (.bipush 100, 2) := by decide +kernel
theorem dX7_setFees_27 : decode cX7_setFees 27 = .ok (.invokestatic 63, 3) := by decide +kernel
theorem dX7_setFees_30 : decode cX7_setFees 30 = .ok (.ifCond .eq 19, 3) := by decide +kernel
theorem dX7_setFees_33 : decode cX7_setFees 33 = .ok (.iload 4, 2) := by decide +kernel
theorem dX7_setFees_35 : decode cX7_setFees 35 = .ok (.iconst 0, 1) := by decide +kernel
theorem dX7_setFees_36 : decode cX7_setFees 36 = .ok (.sipush 9999, 3) := by decide +kernel
theorem dX7_setFees_39 : decode cX7_setFees 39 = .ok (.invokestatic 63, 3) := by decide +kernel
theorem dX7_setFees_42 : decode cX7_setFees 42 = .ok (.ifCond .eq 7, 3) := by decide +kernel
theorem dX7_setFees_45 : decode cX7_setFees 45 = .ok (.iconst 0, 1) := by decide +kernel
theorem dX7_setFees_46 : decode cX7_setFees 46 = .ok (.goto 4, 3) := by decide +kernel
theorem dX7_setFees_49 : decode cX7_setFees 49 = .ok (.iconst 1, 1) := by decide +kernel
theorem dX7_setFees_50 : decode cX7_setFees 50 = .ok (.invokevirtual 35, 3) := by decide +kernel
theorem dX7_setFees_53 : decode cX7_setFees 53 = .ok (.ifCond .eq 5, 3) := by decide +kernel
theorem dX7_setFees_56 : decode cX7_setFees 56 = .ok (.iconst 0, 1) := by decide +kernel
theorem dX7_setFees_57 : decode cX7_setFees 57 = .ok (.ireturn, 1) := by decide +kernel
theorem dX7_setFees_58 : decode cX7_setFees 58 = .ok (.aload_n 0, 1) := by decide +kernel
theorem dX7_setFees_59 : decode cX7_setFees 59 = .ok (.invokevirtual 73, 3) := by decide +kernel
theorem dX7_setFees_62 : decode cX7_setFees 62 = .ok (.aload_n 0, 1) := by decide +kernel
theorem dX7_setFees_63 : decode cX7_setFees 63 = .ok (.getfield 7, 3) := by decide +kernel
theorem dX7_setFees_66 : decode cX7_setFees 66 = .ok (.bipush 9, 2) := by decide +kernel
theorem dX7_setFees_68 : decode cX7_setFees 68 = .ok (.iaload, 1) := by decide +kernel
theorem dX7_setFees_69 : decode cX7_setFees 69 = .ok (.istore 5, 2) := by decide +kernel
theorem dX7_setFees_71 : decode cX7_setFees 71 = .ok (.aload_n 0, 1) := by decide +kernel
theorem dX7_setFees_72 : decode cX7_setFees 72 = .ok (.getfield 7, 3) := by decide +kernel
theorem dX7_setFees_75 : decode cX7_setFees 75 = .ok (.bipush 9, 2) := by decide +kernel
theorem dX7_setFees_77 : decode cX7_setFees 77 = .ok (.iload_n 1, 1) := by decide +kernel
theorem dX7_setFees_78 : decode cX7_setFees 78 = .ok (.iastore, 1) := by decide +kernel
theorem dX7_setFees_79 : decode cX7_setFees 79 = .ok (.aload_n 0, 1) := by decide +kernel
theorem dX7_setFees_80 : decode cX7_setFees 80 = .ok (.getfield 7, 3) := by decide +kernel
theorem dX7_setFees_83 : decode cX7_setFees 83 = .ok (.bipush 10, 2) := by decide +kernel
theorem dX7_setFees_85 : decode cX7_setFees 85 = .ok (.iload_n 2, 1) := by decide +kernel
theorem dX7_setFees_86 : decode cX7_setFees 86 = .ok (.iastore, 1) := by decide +kernel
theorem dX7_setFees_87 : decode cX7_setFees 87 = .ok (.aload_n 0, 1) := by decide +kernel
theorem dX7_setFees_88 : decode cX7_setFees 88 = .ok (.getfield 7, 3) := by decide +kernel
theorem dX7_setFees_91 : decode cX7_setFees 91 = .ok (.bipush 11, 2) := by decide +kernel
theorem dX7_setFees_93 : decode cX7_setFees 93 = .ok (.iload_n 3, 1) := by decide +kernel
theorem dX7_setFees_94 : decode cX7_setFees 94 = .ok (.iastore, 1) := by decide +kernel
theorem dX7_setFees_95 : decode cX7_setFees 95 = .ok (.aload_n 0, 1) := by decide +kernel
theorem dX7_setFees_96 : decode cX7_setFees 96 = .ok (.getfield 7, 3) := by decide +kernel
theorem dX7_setFees_99 : decode cX7_setFees 99 = .ok (.bipush 12, 2) := by decide +kernel
theorem dX7_setFees_101 : decode cX7_setFees 101 = .ok (.iload 4, 2) := by decide +kernel
theorem dX7_setFees_103 : decode cX7_setFees 103 = .ok (.iastore, 1) := by decide +kernel
theorem dX7_setFees_104 : decode cX7_setFees 104 = .ok (.iload 5, 2) := by decide +kernel
theorem dX7_setFees_106 : decode cX7_setFees 106 = .ok (.ireturn, 1) := by decide +kernel
theorem dX7_bits_0 : decode cX7_bits 0 = .ok (.iconst 0, 1) := by decide +kernel
theorem dX7_bits_1 : decode cX7_bits 1 = .ok (.istore_n 1, 1) := by decide +kernel
theorem dX7_bits_2 : decode cX7_bits 2 = .ok (.iload_n 0, 1) := by decide +kernel
theorem dX7_bits_3 : decode cX7_bits 3 = .ok (.istore_n 2, 1) := by decide +kernel
theorem dX7_bits_4 : decode cX7_bits 4 = .ok (.iload_n 2, 1) := by decide +kernel
theorem dX7_bits_5 : decode cX7_bits 5 = .ok (.ifCond .le 16, 3) := by decide +kernel
theorem dX7_bits_8 : decode cX7_bits 8 = .ok (.iload_n 1, 1) := by decide +kernel
theorem dX7_bits_9 : decode cX7_bits 9 = .ok (.iload_n 2, 1) := by decide +kernel
theorem dX7_bits_10 : decode cX7_bits 10 = .ok (.iconst 1, 1) := by decide +kernel
theorem dX7_bits_11 : decode cX7_bits 11 = .ok (.iand, 1) := by decide +kernel
theorem dX7_bits_12 : decode cX7_bits 12 = .ok (.iadd, 1) := by decide +kernel
theorem dX7_bits_13 : decode cX7_bits 13 = .ok (.istore_n 1, 1) := by decide +kernel
theorem dX7_bits_14 : decode cX7_bits 14 = .ok (.iload_n 2, 1) := by decide +kernel
theorem dX7_bits_15 : decode cX7_bits 15 = .ok (.iconst 1, 1) := by decide +kernel
theorem dX7_bits_16 : decode cX7_bits 16 = .ok (.ishr, 1) := by decide +kernel
theorem dX7_bits_17 : decode cX7_bits 17 = .ok (.istore_n 2, 1) := by decide +kernel
theorem dX7_bits_18 : decode cX7_bits 18 = .ok (.goto (-14), 3) := by decide +kernel
theorem dX7_bits_21 : decode cX7_bits 21 = .ok (.iload_n 1, 1) := by decide +kernel
theorem dX7_bits_22 : decode cX7_bits 22 = .ok (.ireturn, 1) := by decide +kernel
theorem dX7_costNow_0 : decode cX7_costNow 0 = .ok (.aload_n 0, 1) := by decide +kernel
theorem dX7_costNow_1 : decode cX7_costNow 1 = .ok (.iload_n 1, 1) := by decide +kernel
theorem dX7_costNow_2 : decode cX7_costNow 2 = .ok (.invokevirtual 90, 3) := by decide +kernel
theorem dX7_costNow_5 : decode cX7_costNow 5 = .ok (.iconst (-1), 1) := by decide +kernel
theorem dX7_costNow_6 : decode cX7_costNow 6 = .ok (.if_icmp .ne 5, 3) := by decide +kernel
theorem dX7_costNow_9 : decode cX7_costNow 9 = .ok (.iconst 0, 1) := by decide +kernel
theorem dX7_costNow_10 : decode cX7_costNow 10 = .ok (.ireturn, 1) := by decide +kernel
theorem dX7_costNow_11 : decode cX7_costNow 11 = .ok (.aload_n 0, 1) := by decide +kernel
theorem dX7_costNow_12 : decode cX7_costNow 12 = .ok (.iload_n 1, 1) := by decide +kernel
theorem dX7_costNow_13 : decode cX7_costNow 13 = .ok (.aload_n 0, 1) := by decide +kernel
theorem dX7_costNow_14 : decode cX7_costNow 14 = .ok (.iload_n 1, 1) := by decide +kernel
theorem dX7_costNow_15 : decode cX7_costNow 15 = .ok (.invokevirtual 90, 3) := by decide +kernel
theorem dX7_costNow_18 : decode cX7_costNow 18 = .ok (.invokevirtual 106, 3) := by decide +kernel
theorem dX7_costNow_21 : decode cX7_costNow 21 = .ok (.istore_n 2, 1) := by decide +kernel
theorem dX7_costNow_22 : decode cX7_costNow 22 = .ok (.aload_n 0, 1) := by decide +kernel
theorem dX7_costNow_23 : decode cX7_costNow 23 = .ok (.iload_n 1, 1) := by decide +kernel
theorem dX7_costNow_24 : decode cX7_costNow 24 = .ok (.invokevirtual 121, 3) := by decide +kernel
theorem dX7_costNow_27 : decode cX7_costNow 27 = .ok (.ifCond .eq 13, 3) := by decide +kernel
theorem dX7_costNow_30 : decode cX7_costNow 30 = .ok (.iload_n 2, 1) := by decide +kernel
theorem dX7_costNow_31 : decode cX7_costNow 31 = .ok (.aload_n 0, 1) := by decide +kernel
theorem dX7_costNow_32 : decode cX7_costNow 32 = .ok (.iload_n 2, 1) := by decide +kernel
theorem dX7_costNow_33 : decode cX7_costNow 33 = .ok (.invokevirtual 109, 3) := by decide +kernel
theorem dX7_costNow_36 : decode cX7_costNow 36 = .ok (.iadd, 1) := by decide +kernel
theorem dX7_costNow_37 : decode cX7_costNow 37 = .ok (.goto 4, 3) := by decide +kernel
theorem dX7_costNow_40 : decode cX7_costNow 40 = .ok (.iload_n 2, 1) := by decide +kernel
theorem dX7_costNow_41 : decode cX7_costNow 41 = .ok (.ireturn, 1) := by decide +kernel
theorem dX7_tellRight_0 : decode cX7_tellRight 0 = .ok (.aload_n 0, 1) := by decide +kernel
theorem dX7_tellRight_1 : decode cX7_tellRight 1 = .ok (.iload_n 1, 1) := by decide +kernel
theorem dX7_tellRight_2 : decode cX7_tellRight 2 = .ok (.invokevirtual 90, 3) := by decide +kernel
theorem dX7_tellRight_5 : decode cX7_tellRight 5 = .ok (.istore_n 3, 1) := by decide +kernel
theorem dX7_tellRight_6 : decode cX7_tellRight 6 = .ok (.iload_n 2, 1) := by decide +kernel
theorem dX7_tellRight_7 : decode cX7_tellRight 7 = .ok (.tableswitch 151 0 11 #[61, 61, 61, 68, 70, 86, 102, 108, 122, 128, 135, 141], 61) := by decide +kernel
theorem dX7_tellRight_68 : decode cX7_tellRight 68 = .ok (.aload_n 0, 1) := by decide +kernel
theorem dX7_tellRight_69 : decode cX7_tellRight 69 = .ok (.iload_n 1, 1) := by decide +kernel
theorem dX7_tellRight_70 : decode cX7_tellRight 70 = .ok (.iload_n 2, 1) := by decide +kernel
theorem dX7_tellRight_71 : decode cX7_tellRight 71 = .ok (.invokevirtual 87, 3) := by decide +kernel
theorem dX7_tellRight_74 : decode cX7_tellRight 74 = .ok (.ireturn, 1) := by decide +kernel
theorem dX7_tellRight_75 : decode cX7_tellRight 75 = .ok (.iload_n 3, 1) := by decide +kernel
theorem dX7_tellRight_76 : decode cX7_tellRight 76 = .ok (.ireturn, 1) := by decide +kernel
theorem dX7_tellRight_77 : decode cX7_tellRight 77 = .ok (.iload_n 3, 1) := by decide +kernel
theorem dX7_tellRight_78 : decode cX7_tellRight 78 = .ok (.iconst (-1), 1) := by decide +kernel
theorem dX7_tellRight_79 : decode cX7_tellRight 79 = .ok (.if_icmp .ne 7, 3) := by decide +kernel
theorem dX7_tellRight_82 : decode cX7_tellRight 82 = .ok (.iconst (-1), 1) := by decide +kernel
theorem dX7_tellRight_83 : decode cX7_tellRight 83 = .ok (.goto 9, 3) := by decide +kernel
theorem dX7_tellRight_86 : decode cX7_tellRight 86 = .ok (.aload_n 0, 1) := by decide +kernel
theorem dX7_tellRight_87 : decode cX7_tellRight 87 = .ok (.iload_n 1, 1) := by decide +kernel
theorem dX7_tellRight_88 : decode cX7_tellRight 88 = .ok (.iload_n 3, 1) := by decide +kernel
theorem dX7_tellRight_89 : decode cX7_tellRight 89 = .ok (.invokevirtual 112, 3) := by decide +kernel
theorem dX7_tellRight_92 : decode cX7_tellRight 92 = .ok (.ireturn, 1) := by decide +kernel
theorem dX7_tellRight_93 : decode cX7_tellRight 93 = .ok (.iload_n 3, 1) := by decide +kernel
theorem dX7_tellRight_94 : decode cX7_tellRight 94 = .ok (.iconst (-1), 1) := by decide +kernel
theorem dX7_tellRight_95 : decode cX7_tellRight 95 = .ok (.if_icmp .ne 7, 3) := by decide +kernel
theorem dX7_tellRight_98 : decode cX7_tellRight 98 = .ok (.iconst (-1), 1) := by decide +kernel
theorem dX7_tellRight_99 : decode cX7_tellRight 99 = .ok (.goto 9, 3) := by decide +kernel
theorem dX7_tellRight_102 : decode cX7_tellRight 102 = .ok (.aload_n 0, 1) := by decide +kernel
theorem dX7_tellRight_103 : decode cX7_tellRight 103 = .ok (.iload_n 1, 1) := by decide +kernel
theorem dX7_tellRight_104 : decode cX7_tellRight 104 = .ok (.iload_n 3, 1) := by decide +kernel
theorem dX7_tellRight_105 : decode cX7_tellRight 105 = .ok (.invokevirtual 93, 3) := by decide +kernel
theorem dX7_tellRight_108 : decode cX7_tellRight 108 = .ok (.ireturn, 1) := by decide +kernel
theorem dX7_tellRight_109 : decode cX7_tellRight 109 = .ok (.aload_n 0, 1) := by decide +kernel
theorem dX7_tellRight_110 : decode cX7_tellRight 110 = .ok (.iload_n 1, 1) := by decide +kernel
theorem dX7_tellRight_111 : decode cX7_tellRight 111 = .ok (.invokevirtual 139, 3) := by decide +kernel
theorem dX7_tellRight_114 : decode cX7_tellRight 114 = .ok (.ireturn, 1) := by decide +kernel
theorem dX7_tellRight_115 : decode cX7_tellRight 115 = .ok (.aload_n 0, 1) := by decide +kernel
theorem dX7_tellRight_116 : decode cX7_tellRight 116 = .ok (.iload_n 1, 1) := by decide +kernel
theorem dX7_tellRight_117 : decode cX7_tellRight 117 = .ok (.invokevirtual 96, 3) := by decide +kernel
theorem dX7_tellRight_120 : decode cX7_tellRight 120 = .ok (.ifCond .eq 7, 3) := by decide +kernel
theorem dX7_tellRight_123 : decode cX7_tellRight 123 = .ok (.iconst 1, 1) := by decide +kernel
theorem dX7_tellRight_124 : decode cX7_tellRight 124 = .ok (.goto 4, 3) := by decide +kernel
theorem dX7_tellRight_127 : decode cX7_tellRight 127 = .ok (.iconst 0, 1) := by decide +kernel
theorem dX7_tellRight_128 : decode cX7_tellRight 128 = .ok (.ireturn, 1) := by decide +kernel
theorem dX7_tellRight_129 : decode cX7_tellRight 129 = .ok (.aload_n 0, 1) := by decide +kernel
theorem dX7_tellRight_130 : decode cX7_tellRight 130 = .ok (.iload_n 1, 1) := by decide +kernel
theorem dX7_tellRight_131 : decode cX7_tellRight 131 = .ok (.invokevirtual 99, 3) := by decide +kernel
theorem dX7_tellRight_134 : decode cX7_tellRight 134 = .ok (.ireturn, 1) := by decide +kernel
theorem dX7_tellRight_135 : decode cX7_tellRight 135 = .ok (.aload_n 0, 1) := by decide +kernel
theorem dX7_tellRight_136 : decode cX7_tellRight 136 = .ok (.iload_n 1, 1) := by decide +kernel
theorem dX7_tellRight_137 : decode cX7_tellRight 137 = .ok (.iconst 4, 1) := by decide +kernel
theorem dX7_tellRight_138 : decode cX7_tellRight 138 = .ok (.invokevirtual 87, 3) := by decide +kernel
theorem dX7_tellRight_141 : decode cX7_tellRight 141 = .ok (.ireturn, 1) := by decide +kernel
theorem dX7_tellRight_142 : decode cX7_tellRight 142 = .ok (.aload_n 0, 1) := by decide +kernel
theorem dX7_tellRight_143 : decode cX7_tellRight 143 = .ok (.iload_n 1, 1) := by decide +kernel
theorem dX7_tellRight_144 : decode cX7_tellRight 144 = .ok (.invokevirtual 136, 3) := by decide +kernel
theorem dX7_tellRight_147 : decode cX7_tellRight 147 = .ok (.ireturn, 1) := by decide +kernel
theorem dX7_tellRight_148 : decode cX7_tellRight 148 = .ok (.aload_n 0, 1) := by decide +kernel
theorem dX7_tellRight_149 : decode cX7_tellRight 149 = .ok (.iload_n 1, 1) := by decide +kernel
theorem dX7_tellRight_150 : decode cX7_tellRight 150 = .ok (.iconst 5, 1) := by decide +kernel
theorem dX7_tellRight_151 : decode cX7_tellRight 151 = .ok (.invokevirtual 87, 3) := by decide +kernel
theorem dX7_tellRight_154 : decode cX7_tellRight 154 = .ok (.invokestatic 142, 3) := by decide +kernel
theorem dX7_tellRight_157 : decode cX7_tellRight 157 = .ok (.ireturn, 1) := by decide +kernel
theorem dX7_tellRight_158 : decode cX7_tellRight 158 = .ok (.aload_n 0, 1) := by decide +kernel
theorem dX7_tellRight_159 : decode cX7_tellRight 159 = .ok (.iload_n 1, 1) := by decide +kernel
theorem dX7_tellRight_160 : decode cX7_tellRight 160 = .ok (.iconst 3, 1) := by decide +kernel
theorem dX7_tellRight_161 : decode cX7_tellRight 161 = .ok (.invokevirtual 87, 3) := by decide +kernel
theorem dX7_tellRight_164 : decode cX7_tellRight 164 = .ok (.ireturn, 1) := by decide +kernel
theorem dX7_right_0 : decode cX7_right 0 = .ok (.aload_n 0, 1) := by decide +kernel
theorem dX7_right_1 : decode cX7_right 1 = .ok (.aload_n 0, 1) := by decide +kernel
theorem dX7_right_2 : decode cX7_right 2 = .ok (.iload_n 1, 1) := by decide +kernel
theorem dX7_right_3 : decode cX7_right 3 = .ok (.invokevirtual 115, 3) := by decide +kernel
theorem dX7_right_6 : decode cX7_right 6 = .ok (.ifCond .ne 7, 3) := by decide +kernel
theorem dX7_right_9 : decode cX7_right 9 = .ok (.iconst 1, 1) := by decide +kernel
theorem dX7_right_10 : decode cX7_right 10 = .ok (.goto 18, 3) := by decide +kernel
theorem dX7_right_13 : decode cX7_right 13 = .ok (.iload_n 2, 1) := by decide +kernel
theorem dX7_right_14 : decode cX7_right 14 = .ok (.iconst 0, 1) := by decide +kernel
theorem dX7_right_15 : decode cX7_right 15 = .ok (.bipush 12, 2) := by decide +kernel
theorem dX7_right_17 : decode cX7_right 17 = .ok (.invokestatic 63, 3) := by decide +kernel
theorem dX7_right_20 : decode cX7_right 20 = .ok (.ifCond .eq 7, 3) := by decide +kernel
theorem dX7_right_23 : decode cX7_right 23 = .ok (.iconst 0, 1) := by decide +kernel
theorem dX7_right_24 : decode cX7_right 24 = .ok (.goto 4, 3) := by decide +kernel
theorem dX7_right_27 : decode cX7_right 27 = .ok (.iconst 2, 1) := by decide +kernel
theorem dX7_right_28 : decode cX7_right 28 = .ok (.invokevirtual 35, 3) := by decide +kernel
theorem dX7_right_31 : decode cX7_right 31 = .ok (.ifCond .eq 7, 3) := by decide +kernel
theorem dX7_right_34 : decode cX7_right 34 = .ok (.iconst 0, 1) := by decide +kernel
theorem dX7_right_35 : decode cX7_right 35 = .ok (.goto 9, 3) := by decide +kernel
theorem dX7_right_38 : decode cX7_right 38 = .ok (.aload_n 0, 1) := by decide +kernel
theorem dX7_right_39 : decode cX7_right 39 = .ok (.iload_n 1, 1) := by decide +kernel
theorem dX7_right_40 : decode cX7_right 40 = .ok (.iload_n 2, 1) := by decide +kernel
theorem dX7_right_41 : decode cX7_right 41 = .ok (.invokevirtual 145, 3) := by decide +kernel
theorem dX7_right_44 : decode cX7_right 44 = .ok (.ireturn, 1) := by decide +kernel
theorem dX7_due_0 : decode cX7_due 0 = .ok (.aload_n 0, 1) := by decide +kernel
theorem dX7_due_1 : decode cX7_due 1 = .ok (.aload_n 0, 1) := by decide +kernel
theorem dX7_due_2 : decode cX7_due 2 = .ok (.iload_n 1, 1) := by decide +kernel
theorem dX7_due_3 : decode cX7_due 3 = .ok (.invokevirtual 115, 3) := by decide +kernel
theorem dX7_due_6 : decode cX7_due 6 = .ok (.ifCond .ne 7, 3) := by decide +kernel
theorem dX7_due_9 : decode cX7_due 9 = .ok (.iconst 1, 1) := by decide +kernel
theorem dX7_due_10 : decode cX7_due 10 = .ok (.goto 18, 3) := by decide +kernel
theorem dX7_due_13 : decode cX7_due 13 = .ok (.iload_n 2, 1) := by decide +kernel
theorem dX7_due_14 : decode cX7_due 14 = .ok (.iconst 1, 1) := by decide +kernel
theorem dX7_due_15 : decode cX7_due 15 = .ok (.bipush 19, 2) := by decide +kernel
theorem dX7_due_17 : decode cX7_due 17 = .ok (.invokestatic 63, 3) := by decide +kernel
theorem dX7_due_20 : decode cX7_due 20 = .ok (.ifCond .eq 7, 3) := by decide +kernel
theorem dX7_due_23 : decode cX7_due 23 = .ok (.iconst 0, 1) := by decide +kernel
theorem dX7_due_24 : decode cX7_due 24 = .ok (.goto 4, 3) := by decide +kernel
theorem dX7_due_27 : decode cX7_due 27 = .ok (.iconst 2, 1) := by decide +kernel
theorem dX7_due_28 : decode cX7_due 28 = .ok (.invokevirtual 35, 3) := by decide +kernel
theorem dX7_due_31 : decode cX7_due 31 = .ok (.ifCond .eq 5, 3) := by decide +kernel
theorem dX7_due_34 : decode cX7_due 34 = .ok (.iconst 0, 1) := by decide +kernel
theorem dX7_due_35 : decode cX7_due 35 = .ok (.ireturn, 1) := by decide +kernel
theorem dX7_due_36 : decode cX7_due 36 = .ok (.iload_n 3, 1) := by decide +kernel
theorem dX7_due_37 : decode cX7_due 37 = .ok (.ifCond .eq 12, 3) := by decide +kernel
theorem dX7_due_40 : decode cX7_due 40 = .ok (.aload_n 0, 1) := by decide +kernel
theorem dX7_due_41 : decode cX7_due 41 = .ok (.iload_n 1, 1) := by decide +kernel
theorem dX7_due_42 : decode cX7_due 42 = .ok (.iload_n 2, 1) := by decide +kernel
theorem dX7_due_43 : decode cX7_due 43 = .ok (.invokevirtual 93, 3) := by decide +kernel
theorem dX7_due_46 : decode cX7_due 46 = .ok (.goto 9, 3) := by decide +kernel
theorem dX7_due_49 : decode cX7_due 49 = .ok (.aload_n 0, 1) := by decide +kernel
theorem dX7_due_50 : decode cX7_due 50 = .ok (.iload_n 1, 1) := by decide +kernel
theorem dX7_due_51 : decode cX7_due 51 = .ok (.iload_n 2, 1) := by decide +kernel
theorem dX7_due_52 : decode cX7_due 52 = .ok (.invokevirtual 112, 3) := by decide +kernel
theorem dX7_due_55 : decode cX7_due 55 = .ok (.ireturn, 1) := by decide +kernel
theorem dX7_laysGaps_0 : decode cX7_laysGaps 0 = .ok (.aload_n 0, 1) := by decide +kernel
theorem dX7_laysGaps_1 : decode cX7_laysGaps 1 = .ok (.iconst 0, 1) := by decide +kernel
theorem dX7_laysGaps_2 : decode cX7_laysGaps 2 = .ok (.putfield 148, 3) := by decide +kernel
theorem dX7_laysGaps_5 : decode cX7_laysGaps 5 = .ok (.iconst 1, 1) := by decide +kernel
theorem dX7_laysGaps_6 : decode cX7_laysGaps 6 = .ok (.istore_n 2, 1) := by decide +kernel
theorem dX7_laysGaps_7 : decode cX7_laysGaps 7 = .ok (.iload_n 2, 1) := by decide +kernel
theorem dX7_laysGaps_8 : decode cX7_laysGaps 8 = .ok (.aload_n 0, 1) := by decide +kernel
theorem dX7_laysGaps_9 : decode cX7_laysGaps 9 = .ok (.iload_n 1, 1) := by decide +kernel
theorem dX7_laysGaps_10 : decode cX7_laysGaps 10 = .ok (.iconst 2, 1) := by decide +kernel
theorem dX7_laysGaps_11 : decode cX7_laysGaps 11 = .ok (.invokevirtual 87, 3) := by decide +kernel
theorem dX7_laysGaps_14 : decode cX7_laysGaps 14 = .ok (.if_icmp .gt 66, 3) := by decide +kernel
theorem dX7_laysGaps_17 : decode cX7_laysGaps 17 = .ok (.aload_n 0, 1) := by decide +kernel
theorem dX7_laysGaps_18 : decode cX7_laysGaps 18 = .ok (.iload_n 1, 1) := by decide +kernel
theorem dX7_laysGaps_19 : decode cX7_laysGaps 19 = .ok (.bipush 6, 2) := by decide +kernel
theorem dX7_laysGaps_21 : decode cX7_laysGaps 21 = .ok (.iload_n 2, 1) := by decide +kernel
theorem dX7_laysGaps_22 : decode cX7_laysGaps 22 = .ok (.iadd, 1) := by decide +kernel
theorem dX7_laysGaps_23 : decode cX7_laysGaps 23 = .ok (.iconst 1, 1) := by decide +kernel
theorem dX7_laysGaps_24 : decode cX7_laysGaps 24 = .ok (.isub, 1) := by decide +kernel
theorem dX7_laysGaps_25 : decode cX7_laysGaps 25 = .ok (.invokevirtual 87, 3) := by decide +kernel
theorem dX7_laysGaps_28 : decode cX7_laysGaps 28 = .ok (.istore_n 3, 1) := by decide +kernel
theorem dX7_laysGaps_29 : decode cX7_laysGaps 29 = .ok (.iload_n 3, 1) := by decide +kernel
theorem dX7_laysGaps_30 : decode cX7_laysGaps 30 = .ok (.aload_n 0, 1) := by decide +kernel
theorem dX7_laysGaps_31 : decode cX7_laysGaps 31 = .ok (.iload_n 1, 1) := by decide +kernel
theorem dX7_laysGaps_32 : decode cX7_laysGaps 32 = .ok (.iload_n 2, 1) := by decide +kernel
theorem dX7_laysGaps_33 : decode cX7_laysGaps 33 = .ok (.invokevirtual 93, 3) := by decide +kernel
theorem dX7_laysGaps_36 : decode cX7_laysGaps 36 = .ok (.if_icmp .le 38, 3) := by decide +kernel
theorem dX7_laysGaps_39 : decode cX7_laysGaps 39 = .ok (.aload_n 0, 1) := by decide +kernel
theorem dX7_laysGaps_40 : decode cX7_laysGaps 40 = .ok (.getfield 22, 3) := by decide +kernel
theorem dX7_laysGaps_43 : decode cX7_laysGaps 43 = .ok (.aload_n 0, 1) := by decide +kernel
theorem dX7_laysGaps_44 : decode cX7_laysGaps 44 = .ok (.getfield 148, 3) := by decide +kernel
theorem dX7_laysGaps_47 : decode cX7_laysGaps 47 = .ok (.aload_n 0, 1) := by decide +kernel
theorem dX7_laysGaps_48 : decode cX7_laysGaps 48 = .ok (.iload_n 1, 1) := by decide +kernel
theorem dX7_laysGaps_49 : decode cX7_laysGaps 49 = .ok (.iload_n 2, 1) := by decide +kernel
theorem dX7_laysGaps_50 : decode cX7_laysGaps 50 = .ok (.invokevirtual 112, 3) := by decide +kernel
theorem dX7_laysGaps_53 : decode cX7_laysGaps 53 = .ok (.iastore, 1) := by decide +kernel
theorem dX7_laysGaps_54 : decode cX7_laysGaps 54 = .ok (.aload_n 0, 1) := by decide +kernel
theorem dX7_laysGaps_55 : decode cX7_laysGaps 55 = .ok (.getfield 25, 3) := by decide +kernel
theorem dX7_laysGaps_58 : decode cX7_laysGaps 58 = .ok (.aload_n 0, 1) := by decide +kernel
theorem dX7_laysGaps_59 : decode cX7_laysGaps 59 = .ok (.getfield 148, 3) := by decide +kernel
theorem dX7_laysGaps_62 : decode cX7_laysGaps 62 = .ok (.iload_n 3, 1) := by decide +kernel
theorem dX7_laysGaps_63 : decode cX7_laysGaps 63 = .ok (.iastore, 1) := by decide +kernel
theorem dX7_laysGaps_64 : decode cX7_laysGaps 64 = .ok (.aload_n 0, 1) := by decide +kernel
theorem dX7_laysGaps_65 : decode cX7_laysGaps 65 = .ok (.dup, 1) := by decide +kernel
theorem dX7_laysGaps_66 : decode cX7_laysGaps 66 = .ok (.getfield 148, 3) := by decide +kernel
theorem dX7_laysGaps_69 : decode cX7_laysGaps 69 = .ok (.iconst 1, 1) := by decide +kernel
theorem dX7_laysGaps_70 : decode cX7_laysGaps 70 = .ok (.iadd, 1) := by decide +kernel
theorem dX7_laysGaps_71 : decode cX7_laysGaps 71 = .ok (.putfield 148, 3) := by decide +kernel
theorem dX7_laysGaps_74 : decode cX7_laysGaps 74 = .ok (.iinc 2 1, 3) := by decide +kernel
theorem dX7_laysGaps_77 : decode cX7_laysGaps 77 = .ok (.goto (-70), 3) := by decide +kernel
theorem dX7_laysGaps_80 : decode cX7_laysGaps 80 = .ok (.aload_n 0, 1) := by decide +kernel
theorem dX7_laysGaps_81 : decode cX7_laysGaps 81 = .ok (.aload_n 0, 1) := by decide +kernel
theorem dX7_laysGaps_82 : decode cX7_laysGaps 82 = .ok (.iload_n 1, 1) := by decide +kernel
theorem dX7_laysGaps_83 : decode cX7_laysGaps 83 = .ok (.invokevirtual 96, 3) := by decide +kernel
theorem dX7_laysGaps_86 : decode cX7_laysGaps 86 = .ok (.ifCond .eq 16, 3) := by decide +kernel
theorem dX7_laysGaps_89 : decode cX7_laysGaps 89 = .ok (.aload_n 0, 1) := by decide +kernel
theorem dX7_laysGaps_90 : decode cX7_laysGaps 90 = .ok (.iload_n 1, 1) := by decide +kernel
theorem dX7_laysGaps_91 : decode cX7_laysGaps 91 = .ok (.aload_n 0, 1) := by decide +kernel
theorem dX7_laysGaps_92 : decode cX7_laysGaps 92 = .ok (.iload_n 1, 1) := by decide +kernel
theorem dX7_laysGaps_93 : decode cX7_laysGaps 93 = .ok (.invokevirtual 90, 3) := by decide +kernel
theorem dX7_laysGaps_96 : decode cX7_laysGaps 96 = .ok (.invokevirtual 112, 3) := by decide +kernel
theorem dX7_laysGaps_99 : decode cX7_laysGaps 99 = .ok (.goto 8, 3) := by decide +kernel
theorem dX7_laysGaps_102 : decode cX7_laysGaps 102 = .ok (.bipush 79, 2) := by decide +kernel
theorem dX7_laysGaps_104 : decode cX7_laysGaps 104 = .ok (.invokestatic 60, 3) := by decide +kernel
theorem dX7_laysGaps_107 : decode cX7_laysGaps 107 = .ok (.putfield 151, 3) := by decide +kernel
theorem dX7_laysGaps_110 : decode cX7_laysGaps 110 = .ok (.return_, 1) := by decide +kernel
theorem dX7_isCovered_0 : decode cX7_isCovered 0 = .ok (.iload_n 1, 1) := by decide +kernel
theorem dX7_isCovered_1 : decode cX7_isCovered 1 = .ok (.aload_n 0, 1) := by decide +kernel
theorem dX7_isCovered_2 : decode cX7_isCovered 2 = .ok (.getfield 151, 3) := by decide +kernel
theorem dX7_isCovered_5 : decode cX7_isCovered 5 = .ok (.if_icmp .gt 7, 3) := by decide +kernel
theorem dX7_isCovered_8 : decode cX7_isCovered 8 = .ok (.iconst 1, 1) := by decide +kernel
theorem dX7_isCovered_9 : decode cX7_isCovered 9 = .ok (.goto 4, 3) := by decide +kernel
theorem dX7_isCovered_12 : decode cX7_isCovered 12 = .ok (.iconst 0, 1) := by decide +kernel
theorem dX7_isCovered_13 : decode cX7_isCovered 13 = .ok (.istore_n 2, 1) := by decide +kernel
theorem dX7_isCovered_14 : decode cX7_isCovered 14 = .ok (.iconst 0, 1) := by decide +kernel
theorem dX7_isCovered_15 : decode cX7_isCovered 15 = .ok (.istore_n 3, 1) := by decide +kernel
theorem dX7_isCovered_16 : decode cX7_isCovered 16 = .ok (.iload_n 3, 1) := by decide +kernel
theorem dX7_isCovered_17 : decode cX7_isCovered 17 = .ok (.aload_n 0, 1) := by decide +kernel
theorem dX7_isCovered_18 : decode cX7_isCovered 18 = .ok (.getfield 148, 3) := by decide +kernel
theorem dX7_isCovered_21 : decode cX7_isCovered 21 = .ok (.if_icmp .ge 39, 3) := by decide +kernel
theorem dX7_isCovered_24 : decode cX7_isCovered 24 = .ok (.iload_n 2, 1) := by decide +kernel
theorem dX7_isCovered_25 : decode cX7_isCovered 25 = .ok (.ifCond .eq 27, 3) := by decide +kernel
theorem dX7_isCovered_28 : decode cX7_isCovered 28 = .ok (.iload_n 1, 1) := by decide +kernel
theorem dX7_isCovered_29 : decode cX7_isCovered 29 = .ok (.aload_n 0, 1) := by decide +kernel
theorem dX7_isCovered_30 : decode cX7_isCovered 30 = .ok (.getfield 22, 3) := by decide +kernel
theorem dX7_isCovered_33 : decode cX7_isCovered 33 = .ok (.iload_n 3, 1) := by decide +kernel
theorem dX7_isCovered_34 : decode cX7_isCovered 34 = .ok (.iaload, 1) := by decide +kernel
theorem dX7_isCovered_35 : decode cX7_isCovered 35 = .ok (.if_icmp .le 13, 3) := by decide +kernel
theorem dX7_isCovered_38 : decode cX7_isCovered 38 = .ok (.iload_n 1, 1) := by decide +kernel
theorem dX7_isCovered_39 : decode cX7_isCovered 39 = .ok (.aload_n 0, 1) := by decide +kernel
theorem dX7_isCovered_40 : decode cX7_isCovered 40 = .ok (.getfield 25, 3) := by decide +kernel
theorem dX7_isCovered_43 : decode cX7_isCovered 43 = .ok (.iload_n 3, 1) := by decide +kernel
theorem dX7_isCovered_44 : decode cX7_isCovered 44 = .ok (.iaload, 1) := by decide +kernel
theorem dX7_isCovered_45 : decode cX7_isCovered 45 = .ok (.if_icmp .lt 7, 3) := by decide +kernel
theorem dX7_isCovered_48 : decode cX7_isCovered 48 = .ok (.iconst 1, 1) := by decide +kernel
theorem dX7_isCovered_49 : decode cX7_isCovered 49 = .ok (.goto 4, 3) := by decide +kernel
theorem dX7_isCovered_52 : decode cX7_isCovered 52 = .ok (.iconst 0, 1) := by decide +kernel
theorem dX7_isCovered_53 : decode cX7_isCovered 53 = .ok (.istore_n 2, 1) := by decide +kernel
theorem dX7_isCovered_54 : decode cX7_isCovered 54 = .ok (.iinc 3 1, 3) := by decide +kernel
theorem dX7_isCovered_57 : decode cX7_isCovered 57 = .ok (.goto (-41), 3) := by decide +kernel
theorem dX7_isCovered_60 : decode cX7_isCovered 60 = .ok (.iload_n 2, 1) := by decide +kernel
theorem dX7_isCovered_61 : decode cX7_isCovered 61 = .ok (.ireturn, 1) := by decide +kernel
theorem dX7_stoodOn_0 : decode cX7_stoodOn 0 = .ok (.aload_n 0, 1) := by decide +kernel
theorem dX7_stoodOn_1 : decode cX7_stoodOn 1 = .ok (.iload_n 1, 1) := by decide +kernel
theorem dX7_stoodOn_2 : decode cX7_stoodOn 2 = .ok (.invokevirtual 154, 3) := by decide +kernel
theorem dX7_stoodOn_5 : decode cX7_stoodOn 5 = .ok (.iload_n 2, 1) := by decide +kernel
theorem dX7_stoodOn_6 : decode cX7_stoodOn 6 = .ok (.aload_n 0, 1) := by decide +kernel
theorem dX7_stoodOn_7 : decode cX7_stoodOn 7 = .ok (.iload_n 1, 1) := by decide +kernel
theorem dX7_stoodOn_8 : decode cX7_stoodOn 8 = .ok (.iconst 0, 1) := by decide +kernel
theorem dX7_stoodOn_9 : decode cX7_stoodOn 9 = .ok (.invokevirtual 87, 3) := by decide +kernel
theorem dX7_stoodOn_12 : decode cX7_stoodOn 12 = .ok (.aload_n 0, 1) := by decide +kernel
theorem dX7_stoodOn_13 : decode cX7_stoodOn 13 = .ok (.iload_n 1, 1) := by decide +kernel
theorem dX7_stoodOn_14 : decode cX7_stoodOn 14 = .ok (.invokevirtual 99, 3) := by decide +kernel
theorem dX7_stoodOn_17 : decode cX7_stoodOn 17 = .ok (.invokestatic 63, 3) := by decide +kernel
theorem dX7_stoodOn_20 : decode cX7_stoodOn 20 = .ok (.ifCond .eq 15, 3) := by decide +kernel
theorem dX7_stoodOn_23 : decode cX7_stoodOn 23 = .ok (.aload_n 0, 1) := by decide +kernel
theorem dX7_stoodOn_24 : decode cX7_stoodOn 24 = .ok (.iload_n 2, 1) := by decide +kernel
theorem dX7_stoodOn_25 : decode cX7_stoodOn 25 = .ok (.invokevirtual 157, 3) := by decide +kernel
theorem dX7_stoodOn_28 : decode cX7_stoodOn 28 = .ok (.ifCond .eq 7, 3) := by decide +kernel
theorem dX7_stoodOn_31 : decode cX7_stoodOn 31 = .ok (.iconst 1, 1) := by decide +kernel
theorem dX7_stoodOn_32 : decode cX7_stoodOn 32 = .ok (.goto 4, 3) := by decide +kernel
theorem dX7_stoodOn_35 : decode cX7_stoodOn 35 = .ok (.iconst 0, 1) := by decide +kernel
theorem dX7_stoodOn_36 : decode cX7_stoodOn 36 = .ok (.ireturn, 1) := by decide +kernel
theorem dX7_stood_0 : decode cX7_stood 0 = .ok (.aload_n 0, 1) := by decide +kernel
theorem dX7_stood_1 : decode cX7_stood 1 = .ok (.aload_n 0, 1) := by decide +kernel
theorem dX7_stood_2 : decode cX7_stood 2 = .ok (.iload_n 1, 1) := by decide +kernel
theorem dX7_stood_3 : decode cX7_stood 3 = .ok (.invokevirtual 115, 3) := by decide +kernel
theorem dX7_stood_6 : decode cX7_stood 6 = .ok (.ifCond .ne 7, 3) := by decide +kernel
theorem dX7_stood_9 : decode cX7_stood 9 = .ok (.iconst 1, 1) := by decide +kernel
theorem dX7_stood_10 : decode cX7_stood 10 = .ok (.goto 22, 3) := by decide +kernel
theorem dX7_stood_13 : decode cX7_stood 13 = .ok (.iload_n 2, 1) := by decide +kernel
theorem dX7_stood_14 : decode cX7_stood 14 = .ok (.iconst 0, 1) := by decide +kernel
theorem dX7_stood_15 : decode cX7_stood 15 = .ok (.aload_n 0, 1) := by decide +kernel
theorem dX7_stood_16 : decode cX7_stood 16 = .ok (.getfield 7, 3) := by decide +kernel
theorem dX7_stood_19 : decode cX7_stood 19 = .ok (.iconst 0, 1) := by decide +kernel
theorem dX7_stood_20 : decode cX7_stood 20 = .ok (.iaload, 1) := by decide +kernel
theorem dX7_stood_21 : decode cX7_stood 21 = .ok (.invokestatic 63, 3) := by decide +kernel
theorem dX7_stood_24 : decode cX7_stood 24 = .ok (.ifCond .eq 7, 3) := by decide +kernel
theorem dX7_stood_27 : decode cX7_stood 27 = .ok (.iconst 0, 1) := by decide +kernel
theorem dX7_stood_28 : decode cX7_stood 28 = .ok (.goto 4, 3) := by decide +kernel
theorem dX7_stood_31 : decode cX7_stood 31 = .ok (.iconst 2, 1) := by decide +kernel
theorem dX7_stood_32 : decode cX7_stood 32 = .ok (.invokevirtual 35, 3) := by decide +kernel
theorem dX7_stood_35 : decode cX7_stood 35 = .ok (.ifCond .ne 16, 3) := by decide +kernel
theorem dX7_stood_38 : decode cX7_stood 38 = .ok (.aload_n 0, 1) := by decide +kernel
theorem dX7_stood_39 : decode cX7_stood 39 = .ok (.iload_n 1, 1) := by decide +kernel
theorem dX7_stood_40 : decode cX7_stood 40 = .ok (.iload_n 2, 1) := by decide +kernel
theorem dX7_stood_41 : decode cX7_stood 41 = .ok (.invokevirtual 160, 3) := by decide +kernel
theorem dX7_stood_44 : decode cX7_stood 44 = .ok (.ifCond .eq 7, 3) := by decide +kernel
theorem dX7_stood_47 : decode cX7_stood 47 = .ok (.iconst 1, 1) := by decide +kernel
theorem dX7_stood_48 : decode cX7_stood 48 = .ok (.goto 4, 3) := by decide +kernel
theorem dX7_stood_51 : decode cX7_stood 51 = .ok (.iconst 0, 1) := by decide +kernel
theorem dX7_stood_52 : decode cX7_stood 52 = .ok (.ireturn, 1) := by decide +kernel
theorem dX7_covered_0 : decode cX7_covered 0 = .ok (.aload_n 0, 1) := by decide +kernel
theorem dX7_covered_1 : decode cX7_covered 1 = .ok (.aload_n 0, 1) := by decide +kernel
theorem dX7_covered_2 : decode cX7_covered 2 = .ok (.iload_n 1, 1) := by decide +kernel
theorem dX7_covered_3 : decode cX7_covered 3 = .ok (.invokevirtual 115, 3) := by decide +kernel
theorem dX7_covered_6 : decode cX7_covered 6 = .ok (.ifCond .ne 7, 3) := by decide +kernel
theorem dX7_covered_9 : decode cX7_covered 9 = .ok (.iconst 1, 1) := by decide +kernel
theorem dX7_covered_10 : decode cX7_covered 10 = .ok (.goto 22, 3) := by decide +kernel
theorem dX7_covered_13 : decode cX7_covered 13 = .ok (.iload_n 2, 1) := by decide +kernel
theorem dX7_covered_14 : decode cX7_covered 14 = .ok (.iconst 0, 1) := by decide +kernel
theorem dX7_covered_15 : decode cX7_covered 15 = .ok (.aload_n 0, 1) := by decide +kernel
theorem dX7_covered_16 : decode cX7_covered 16 = .ok (.getfield 7, 3) := by decide +kernel
theorem dX7_covered_19 : decode cX7_covered 19 = .ok (.iconst 0, 1) := by decide +kernel
theorem dX7_covered_20 : decode cX7_covered 20 = .ok (.iaload, 1) := by decide +kernel
theorem dX7_covered_21 : decode cX7_covered 21 = .ok (.invokestatic 63, 3) := by decide +kernel
theorem dX7_covered_24 : decode cX7_covered 24 = .ok (.ifCond .eq 7, 3) := by decide +kernel
theorem dX7_covered_27 : decode cX7_covered 27 = .ok (.iconst 0, 1) := by decide +kernel
theorem dX7_covered_28 : decode cX7_covered 28 = .ok (.goto 4, 3) := by decide +kernel
theorem dX7_covered_31 : decode cX7_covered 31 = .ok (.iconst 2, 1) := by decide +kernel
theorem dX7_covered_32 : decode cX7_covered 32 = .ok (.invokevirtual 35, 3) := by decide +kernel
theorem dX7_covered_35 : decode cX7_covered 35 = .ok (.ifCond .ne 16, 3) := by decide +kernel
theorem dX7_covered_38 : decode cX7_covered 38 = .ok (.aload_n 0, 1) := by decide +kernel
theorem dX7_covered_39 : decode cX7_covered 39 = .ok (.iload_n 1, 1) := by decide +kernel
theorem dX7_covered_40 : decode cX7_covered 40 = .ok (.iload_n 2, 1) := by decide +kernel
theorem dX7_covered_41 : decode cX7_covered 41 = .ok (.invokevirtual 160, 3) := by decide +kernel
theorem dX7_covered_44 : decode cX7_covered 44 = .ok (.ifCond .eq 7, 3) := by decide +kernel
theorem dX7_covered_47 : decode cX7_covered 47 = .ok (.iconst 1, 1) := by decide +kernel
theorem dX7_covered_48 : decode cX7_covered 48 = .ok (.goto 4, 3) := by decide +kernel
theorem dX7_covered_51 : decode cX7_covered 51 = .ok (.iconst 0, 1) := by decide +kernel
theorem dX7_covered_52 : decode cX7_covered 52 = .ok (.ireturn, 1) := by decide +kernel
theorem dX7_tellUser_0 : decode cX7_tellUser 0 = .ok (.aload_n 0, 1) := by decide +kernel
theorem dX7_tellUser_1 : decode cX7_tellUser 1 = .ok (.iload_n 1, 1) := by decide +kernel
theorem dX7_tellUser_2 : decode cX7_tellUser 2 = .ok (.bipush 25, 2) := by decide +kernel
theorem dX7_tellUser_4 : decode cX7_tellUser 4 = .ok (.iload_n 2, 1) := by decide +kernel
theorem dX7_tellUser_5 : decode cX7_tellUser 5 = .ok (.iadd, 1) := by decide +kernel
theorem dX7_tellUser_6 : decode cX7_tellUser 6 = .ok (.invokevirtual 87, 3) := by decide +kernel
theorem dX7_tellUser_9 : decode cX7_tellUser 9 = .ok (.iconst (-1), 1) := by decide +kernel
theorem dX7_tellUser_10 : decode cX7_tellUser 10 = .ok (.if_icmp .ne 7, 3) := by decide +kernel
theorem dX7_tellUser_13 : decode cX7_tellUser 13 = .ok (.iconst 0, 1) := by decide +kernel
theorem dX7_tellUser_14 : decode cX7_tellUser 14 = .ok (.goto 22, 3) := by decide +kernel
theorem dX7_tellUser_17 : decode cX7_tellUser 17 = .ok (.aload_n 0, 1) := by decide +kernel
theorem dX7_tellUser_18 : decode cX7_tellUser 18 = .ok (.iload_n 1, 1) := by decide +kernel
theorem dX7_tellUser_19 : decode cX7_tellUser 19 = .ok (.iconst 5, 1) := by decide +kernel
theorem dX7_tellUser_20 : decode cX7_tellUser 20 = .ok (.invokevirtual 87, 3) := by decide +kernel
theorem dX7_tellUser_23 : decode cX7_tellUser 23 = .ok (.iload_n 2, 1) := by decide +kernel
theorem dX7_tellUser_24 : decode cX7_tellUser 24 = .ok (.ishr, 1) := by decide +kernel
theorem dX7_tellUser_25 : decode cX7_tellUser 25 = .ok (.iconst 1, 1) := by decide +kernel
theorem dX7_tellUser_26 : decode cX7_tellUser 26 = .ok (.iand, 1) := by decide +kernel
theorem dX7_tellUser_27 : decode cX7_tellUser 27 = .ok (.iconst 1, 1) := by decide +kernel
theorem dX7_tellUser_28 : decode cX7_tellUser 28 = .ok (.if_icmp .ne 7, 3) := by decide +kernel
theorem dX7_tellUser_31 : decode cX7_tellUser 31 = .ok (.iconst 2, 1) := by decide +kernel
theorem dX7_tellUser_32 : decode cX7_tellUser 32 = .ok (.goto 4, 3) := by decide +kernel
theorem dX7_tellUser_35 : decode cX7_tellUser 35 = .ok (.iconst 1, 1) := by decide +kernel
theorem dX7_tellUser_36 : decode cX7_tellUser 36 = .ok (.ireturn, 1) := by decide +kernel
theorem dX7_user_0 : decode cX7_user 0 = .ok (.aload_n 0, 1) := by decide +kernel
theorem dX7_user_1 : decode cX7_user 1 = .ok (.aload_n 0, 1) := by decide +kernel
theorem dX7_user_2 : decode cX7_user 2 = .ok (.iload_n 1, 1) := by decide +kernel
theorem dX7_user_3 : decode cX7_user 3 = .ok (.invokevirtual 115, 3) := by decide +kernel
theorem dX7_user_6 : decode cX7_user 6 = .ok (.ifCond .ne 7, 3) := by decide +kernel
theorem dX7_user_9 : decode cX7_user 9 = .ok (.iconst 1, 1) := by decide +kernel
theorem dX7_user_10 : decode cX7_user 10 = .ok (.goto 15, 3) := by decide +kernel
theorem dX7_user_13 : decode cX7_user 13 = .ok (.iload_n 2, 1) := by decide +kernel
theorem dX7_user_14 : decode cX7_user 14 = .ok (.invokestatic 130, 3) := by decide +kernel
theorem dX7_user_17 : decode cX7_user 17 = .ok (.ifCond .eq 7, 3) := by decide +kernel
theorem dX7_user_20 : decode cX7_user 20 = .ok (.iconst 0, 1) := by decide +kernel
theorem dX7_user_21 : decode cX7_user 21 = .ok (.goto 4, 3) := by decide +kernel
theorem dX7_user_24 : decode cX7_user 24 = .ok (.iconst 2, 1) := by decide +kernel
theorem dX7_user_25 : decode cX7_user 25 = .ok (.invokevirtual 35, 3) := by decide +kernel
theorem dX7_user_28 : decode cX7_user 28 = .ok (.ifCond .eq 7, 3) := by decide +kernel
theorem dX7_user_31 : decode cX7_user 31 = .ok (.iconst 0, 1) := by decide +kernel
theorem dX7_user_32 : decode cX7_user 32 = .ok (.goto 9, 3) := by decide +kernel
theorem dX7_user_35 : decode cX7_user 35 = .ok (.aload_n 0, 1) := by decide +kernel
theorem dX7_user_36 : decode cX7_user 36 = .ok (.iload_n 1, 1) := by decide +kernel
theorem dX7_user_37 : decode cX7_user 37 = .ok (.iload_n 2, 1) := by decide +kernel
theorem dX7_user_38 : decode cX7_user 38 = .ok (.invokevirtual 164, 3) := by decide +kernel
theorem dX7_user_41 : decode cX7_user 41 = .ok (.ireturn, 1) := by decide +kernel
theorem dX7_standing_0 : decode cX7_standing 0 = .ok (.iconst 0, 1) := by decide +kernel
theorem dX7_standing_1 : decode cX7_standing 1 = .ok (.istore_n 1, 1) := by decide +kernel
theorem dX7_standing_2 : decode cX7_standing 2 = .ok (.iconst 0, 1) := by decide +kernel
theorem dX7_standing_3 : decode cX7_standing 3 = .ok (.istore_n 2, 1) := by decide +kernel
theorem dX7_standing_4 : decode cX7_standing 4 = .ok (.iload_n 2, 1) := by decide +kernel
theorem dX7_standing_5 : decode cX7_standing 5 = .ok (.aload_n 0, 1) := by decide +kernel
theorem dX7_standing_6 : decode cX7_standing 6 = .ok (.getfield 7, 3) := by decide +kernel
theorem dX7_standing_9 : decode cX7_standing 9 = .ok (.iconst 1, 1) := by decide +kernel
theorem dX7_standing_10 : decode cX7_standing 10 = .ok (.iaload, 1) := by decide +kernel
theorem dX7_standing_11 : decode cX7_standing 11 = .ok (.if_icmp .ge 25, 3) := by decide +kernel
theorem dX7_standing_14 : decode cX7_standing 14 = .ok (.iload_n 1, 1) := by decide +kernel
theorem dX7_standing_15 : decode cX7_standing 15 = .ok (.aload_n 0, 1) := by decide +kernel
theorem dX7_standing_16 : decode cX7_standing 16 = .ok (.iload_n 2, 1) := by decide +kernel
theorem dX7_standing_17 : decode cX7_standing 17 = .ok (.invokevirtual 133, 3) := by decide +kernel
theorem dX7_standing_20 : decode cX7_standing 20 = .ok (.ifCond .eq 7, 3) := by decide +kernel
theorem dX7_standing_23 : decode cX7_standing 23 = .ok (.iconst 1, 1) := by decide +kernel
theorem dX7_standing_24 : decode cX7_standing 24 = .ok (.goto 4, 3) := by decide +kernel
theorem dX7_standing_27 : decode cX7_standing 27 = .ok (.iconst 0, 1) := by decide +kernel
theorem dX7_standing_28 : decode cX7_standing 28 = .ok (.iadd, 1) := by decide +kernel
theorem dX7_standing_29 : decode cX7_standing 29 = .ok (.istore_n 1, 1) := by decide +kernel
theorem dX7_standing_30 : decode cX7_standing 30 = .ok (.iinc 2 1, 3) := by decide +kernel
theorem dX7_standing_33 : decode cX7_standing 33 = .ok (.goto (-29), 3) := by decide +kernel
theorem dX7_standing_36 : decode cX7_standing 36 = .ok (.iload_n 1, 1) := by decide +kernel
theorem dX7_standing_37 : decode cX7_standing 37 = .ok (.ireturn, 1) := by decide +kernel
theorem dX7_tellValue_0 : decode cX7_tellValue 0 = .ok (.iload_n 1, 1) := by decide +kernel
theorem dX7_tellValue_1 : decode cX7_tellValue 1 = .ok (.tableswitch 83 0 7 #[47, 47, 54, 59, 64, 71, 71, 71], 47) := by decide +kernel
theorem dX7_tellValue_48 : decode cX7_tellValue 48 = .ok (.aload_n 0, 1) := by decide +kernel
theorem dX7_tellValue_49 : decode cX7_tellValue 49 = .ok (.getfield 7, 3) := by decide +kernel
theorem dX7_tellValue_52 : decode cX7_tellValue 52 = .ok (.iload_n 1, 1) := by decide +kernel
theorem dX7_tellValue_53 : decode cX7_tellValue 53 = .ok (.iaload, 1) := by decide +kernel
theorem dX7_tellValue_54 : decode cX7_tellValue 54 = .ok (.ireturn, 1) := by decide +kernel
theorem dX7_tellValue_55 : decode cX7_tellValue 55 = .ok (.aload_n 0, 1) := by decide +kernel
theorem dX7_tellValue_56 : decode cX7_tellValue 56 = .ok (.invokevirtual 167, 3) := by decide +kernel
theorem dX7_tellValue_59 : decode cX7_tellValue 59 = .ok (.ireturn, 1) := by decide +kernel
theorem dX7_tellValue_60 : decode cX7_tellValue 60 = .ok (.aload_n 0, 1) := by decide +kernel
theorem dX7_tellValue_61 : decode cX7_tellValue 61 = .ok (.invokevirtual 102, 3) := by decide +kernel
theorem dX7_tellValue_64 : decode cX7_tellValue 64 = .ok (.ireturn, 1) := by decide +kernel
theorem dX7_tellValue_65 : decode cX7_tellValue 65 = .ok (.aload_n 0, 1) := by decide +kernel
theorem dX7_tellValue_66 : decode cX7_tellValue 66 = .ok (.getfield 7, 3) := by decide +kernel
theorem dX7_tellValue_69 : decode cX7_tellValue 69 = .ok (.iconst 2, 1) := by decide +kernel
theorem dX7_tellValue_70 : decode cX7_tellValue 70 = .ok (.iaload, 1) := by decide +kernel
theorem dX7_tellValue_71 : decode cX7_tellValue 71 = .ok (.ireturn, 1) := by decide +kernel
theorem dX7_tellValue_72 : decode cX7_tellValue 72 = .ok (.aload_n 0, 1) := by decide +kernel
theorem dX7_tellValue_73 : decode cX7_tellValue 73 = .ok (.getfield 7, 3) := by decide +kernel
theorem dX7_tellValue_76 : decode cX7_tellValue 76 = .ok (.bipush 13, 2) := by decide +kernel
theorem dX7_tellValue_78 : decode cX7_tellValue 78 = .ok (.iload_n 1, 1) := by decide +kernel
theorem dX7_tellValue_79 : decode cX7_tellValue 79 = .ok (.iadd, 1) := by decide +kernel
theorem dX7_tellValue_80 : decode cX7_tellValue 80 = .ok (.iconst 5, 1) := by decide +kernel
theorem dX7_tellValue_81 : decode cX7_tellValue 81 = .ok (.isub, 1) := by decide +kernel
theorem dX7_tellValue_82 : decode cX7_tellValue 82 = .ok (.iaload, 1) := by decide +kernel
theorem dX7_tellValue_83 : decode cX7_tellValue 83 = .ok (.ireturn, 1) := by decide +kernel
theorem dX7_tellValue_84 : decode cX7_tellValue 84 = .ok (.aload_n 0, 1) := by decide +kernel
theorem dX7_tellValue_85 : decode cX7_tellValue 85 = .ok (.getfield 7, 3) := by decide +kernel
theorem dX7_tellValue_88 : decode cX7_tellValue 88 = .ok (.bipush 9, 2) := by decide +kernel
theorem dX7_tellValue_90 : decode cX7_tellValue 90 = .ok (.iload_n 1, 1) := by decide +kernel
theorem dX7_tellValue_91 : decode cX7_tellValue 91 = .ok (.iadd, 1) := by decide +kernel
theorem dX7_tellValue_92 : decode cX7_tellValue 92 = .ok (.bipush 8, 2) := by decide +kernel
theorem dX7_tellValue_94 : decode cX7_tellValue 94 = .ok (.isub, 1) := by decide +kernel
theorem dX7_tellValue_95 : decode cX7_tellValue 95 = .ok (.iaload, 1) := by decide +kernel
theorem dX7_tellValue_96 : decode cX7_tellValue 96 = .ok (.ireturn, 1) := by decide +kernel
theorem dX7_value_0 : decode cX7_value 0 = .ok (.aload_n 0, 1) := by decide +kernel
theorem dX7_value_1 : decode cX7_value 1 = .ok (.iload_n 1, 1) := by decide +kernel
theorem dX7_value_2 : decode cX7_value 2 = .ok (.iconst 0, 1) := by decide +kernel
theorem dX7_value_3 : decode cX7_value 3 = .ok (.bipush 11, 2) := by decide +kernel
theorem dX7_value_5 : decode cX7_value 5 = .ok (.invokestatic 63, 3) := by decide +kernel
theorem dX7_value_8 : decode cX7_value 8 = .ok (.ifCond .eq 7, 3) := by decide +kernel
theorem dX7_value_11 : decode cX7_value 11 = .ok (.iconst 0, 1) := by decide +kernel
theorem dX7_value_12 : decode cX7_value 12 = .ok (.goto 4, 3) := by decide +kernel
theorem dX7_value_15 : decode cX7_value 15 = .ok (.iconst 1, 1) := by decide +kernel
theorem dX7_value_16 : decode cX7_value 16 = .ok (.invokevirtual 35, 3) := by decide +kernel
theorem dX7_value_19 : decode cX7_value 19 = .ok (.ifCond .eq 7, 3) := by decide +kernel
theorem dX7_value_22 : decode cX7_value 22 = .ok (.iconst 0, 1) := by decide +kernel
theorem dX7_value_23 : decode cX7_value 23 = .ok (.goto 8, 3) := by decide +kernel
theorem dX7_value_26 : decode cX7_value 26 = .ok (.aload_n 0, 1) := by decide +kernel
theorem dX7_value_27 : decode cX7_value 27 = .ok (.iload_n 1, 1) := by decide +kernel
theorem dX7_value_28 : decode cX7_value 28 = .ok (.invokevirtual 170, 3) := by decide +kernel
theorem dX7_value_31 : decode cX7_value 31 = .ok (.ireturn, 1) := by decide +kernel
theorem dX7_firstDue_0 : decode cX7_firstDue 0 = .ok (.iconst (-1), 1) := by decide +kernel
theorem dX7_firstDue_1 : decode cX7_firstDue 1 = .ok (.istore_n 1, 1) := by decide +kernel
theorem dX7_firstDue_2 : decode cX7_firstDue 2 = .ok (.iconst 0, 1) := by decide +kernel
theorem dX7_firstDue_3 : decode cX7_firstDue 3 = .ok (.istore_n 2, 1) := by decide +kernel
theorem dX7_firstDue_4 : decode cX7_firstDue 4 = .ok (.iconst 0, 1) := by decide +kernel
theorem dX7_firstDue_5 : decode cX7_firstDue 5 = .ok (.istore_n 3, 1) := by decide +kernel
theorem dX7_firstDue_6 : decode cX7_firstDue 6 = .ok (.iload_n 3, 1) := by decide +kernel
theorem dX7_firstDue_7 : decode cX7_firstDue 7 = .ok (.aload_n 0, 1) := by decide +kernel
theorem dX7_firstDue_8 : decode cX7_firstDue 8 = .ok (.getfield 7, 3) := by decide +kernel
theorem dX7_firstDue_11 : decode cX7_firstDue 11 = .ok (.iconst 1, 1) := by decide +kernel
theorem dX7_firstDue_12 : decode cX7_firstDue 12 = .ok (.iaload, 1) := by decide +kernel
theorem dX7_firstDue_13 : decode cX7_firstDue 13 = .ok (.if_icmp .ge 79, 3) := by decide +kernel
theorem dX7_firstDue_16 : decode cX7_firstDue 16 = .ok (.aload_n 0, 1) := by decide +kernel
theorem dX7_firstDue_17 : decode cX7_firstDue 17 = .ok (.iload_n 3, 1) := by decide +kernel
theorem dX7_firstDue_18 : decode cX7_firstDue 18 = .ok (.invokevirtual 90, 3) := by decide +kernel
theorem dX7_firstDue_21 : decode cX7_firstDue 21 = .ok (.iconst (-1), 1) := by decide +kernel
theorem dX7_firstDue_22 : decode cX7_firstDue 22 = .ok (.if_icmp .eq 64, 3) := by decide +kernel
theorem dX7_firstDue_25 : decode cX7_firstDue 25 = .ok (.aload_n 0, 1) := by decide +kernel
theorem dX7_firstDue_26 : decode cX7_firstDue 26 = .ok (.iload_n 3, 1) := by decide +kernel
theorem dX7_firstDue_27 : decode cX7_firstDue 27 = .ok (.invokevirtual 96, 3) := by decide +kernel
theorem dX7_firstDue_30 : decode cX7_firstDue 30 = .ok (.ifCond .ne 56, 3) := by decide +kernel
theorem dX7_firstDue_33 : decode cX7_firstDue 33 = .ok (.aload_n 0, 1) := by decide +kernel
theorem dX7_firstDue_34 : decode cX7_firstDue 34 = .ok (.iload_n 3, 1) := by decide +kernel
theorem dX7_firstDue_35 : decode cX7_firstDue 35 = .ok (.aload_n 0, 1) := by decide +kernel
theorem dX7_firstDue_36 : decode cX7_firstDue 36 = .ok (.iload_n 3, 1) := by decide +kernel
theorem dX7_firstDue_37 : decode cX7_firstDue 37 = .ok (.invokevirtual 90, 3) := by decide +kernel
theorem dX7_firstDue_40 : decode cX7_firstDue 40 = .ok (.invokevirtual 112, 3) := by decide +kernel
theorem dX7_firstDue_43 : decode cX7_firstDue 43 = .ok (.istore 4, 2) := by decide +kernel
theorem dX7_firstDue_45 : decode cX7_firstDue 45 = .ok (.iload_n 1, 1) := by decide +kernel
theorem dX7_firstDue_46 : decode cX7_firstDue 46 = .ok (.iconst (-1), 1) := by decide +kernel
theorem dX7_firstDue_47 : decode cX7_firstDue 47 = .ok (.if_icmp .eq 9, 3) := by decide +kernel
theorem dX7_firstDue_50 : decode cX7_firstDue 50 = .ok (.iload 4, 2) := by decide +kernel
theorem dX7_firstDue_52 : decode cX7_firstDue 52 = .ok (.iload_n 2, 1) := by decide +kernel
theorem dX7_firstDue_53 : decode cX7_firstDue 53 = .ok (.if_icmp .ge 7, 3) := by decide +kernel
theorem dX7_firstDue_56 : decode cX7_firstDue 56 = .ok (.iconst 1, 1) := by decide +kernel
theorem dX7_firstDue_57 : decode cX7_firstDue 57 = .ok (.goto 4, 3) := by decide +kernel
theorem dX7_firstDue_60 : decode cX7_firstDue 60 = .ok (.iconst 0, 1) := by decide +kernel
theorem dX7_firstDue_61 : decode cX7_firstDue 61 = .ok (.istore 5, 2) := by decide +kernel
theorem dX7_firstDue_63 : decode cX7_firstDue 63 = .ok (.iload 5, 2) := by decide +kernel
theorem dX7_firstDue_65 : decode cX7_firstDue 65 = .ok (.ifCond .eq 7, 3) := by decide +kernel
theorem dX7_firstDue_68 : decode cX7_firstDue 68 = .ok (.iload_n 3, 1) := by decide +kernel
theorem dX7_firstDue_69 : decode cX7_firstDue 69 = .ok (.goto 4, 3) := by decide +kernel
theorem dX7_firstDue_72 : decode cX7_firstDue 72 = .ok (.iload_n 1, 1) := by decide +kernel
theorem dX7_firstDue_73 : decode cX7_firstDue 73 = .ok (.istore_n 1, 1) := by decide +kernel
theorem dX7_firstDue_74 : decode cX7_firstDue 74 = .ok (.iload 5, 2) := by decide +kernel
theorem dX7_firstDue_76 : decode cX7_firstDue 76 = .ok (.ifCond .eq 8, 3) := by decide +kernel
theorem dX7_firstDue_79 : decode cX7_firstDue 79 = .ok (.iload 4, 2) := by decide +kernel
theorem dX7_firstDue_81 : decode cX7_firstDue 81 = .ok (.goto 4, 3) := by decide +kernel
theorem dX7_firstDue_84 : decode cX7_firstDue 84 = .ok (.iload_n 2, 1) := by decide +kernel
theorem dX7_firstDue_85 : decode cX7_firstDue 85 = .ok (.istore_n 2, 1) := by decide +kernel
theorem dX7_firstDue_86 : decode cX7_firstDue 86 = .ok (.iinc 3 1, 3) := by decide +kernel
theorem dX7_firstDue_89 : decode cX7_firstDue 89 = .ok (.goto (-83), 3) := by decide +kernel
theorem dX7_firstDue_92 : decode cX7_firstDue 92 = .ok (.iload_n 1, 1) := by decide +kernel
theorem dX7_firstDue_93 : decode cX7_firstDue 93 = .ok (.ireturn, 1) := by decide +kernel
theorem dX7_nextDue_0 : decode cX7_nextDue 0 = .ok (.aload_n 0, 1) := by decide +kernel
theorem dX7_nextDue_1 : decode cX7_nextDue 1 = .ok (.iconst 0, 1) := by decide +kernel
theorem dX7_nextDue_2 : decode cX7_nextDue 2 = .ok (.putfield 28, 3) := by decide +kernel
theorem dX7_nextDue_5 : decode cX7_nextDue 5 = .ok (.aload_n 0, 1) := by decide +kernel
theorem dX7_nextDue_6 : decode cX7_nextDue 6 = .ok (.invokevirtual 173, 3) := by decide +kernel
theorem dX7_nextDue_9 : decode cX7_nextDue 9 = .ok (.ireturn, 1) := by decide +kernel
theorem dX7_areDays_0 : decode cX7_areDays 0 = .ok (.iload_n 0, 1) := by decide +kernel
theorem dX7_areDays_1 : decode cX7_areDays 1 = .ok (.iconst 0, 1) := by decide +kernel
theorem dX7_areDays_2 : decode cX7_areDays 2 = .ok (.sipush 4000, 3) := by decide +kernel
theorem dX7_areDays_5 : decode cX7_areDays 5 = .ok (.invokestatic 63, 3) := by decide +kernel
theorem dX7_areDays_8 : decode cX7_areDays 8 = .ok (.ireturn, 1) := by decide +kernel
theorem dX7_costsOf_0 : decode cX7_costsOf 0 = .ok (.iconst 0, 1) := by decide +kernel
theorem dX7_costsOf_1 : decode cX7_costsOf 1 = .ok (.istore_n 3, 1) := by decide +kernel
theorem dX7_costsOf_2 : decode cX7_costsOf 2 = .ok (.aload_n 0, 1) := by decide +kernel
theorem dX7_costsOf_3 : decode cX7_costsOf 3 = .ok (.iload_n 1, 1) := by decide +kernel
theorem dX7_costsOf_4 : decode cX7_costsOf 4 = .ok (.iconst 2, 1) := by decide +kernel
theorem dX7_costsOf_5 : decode cX7_costsOf 5 = .ok (.invokevirtual 87, 3) := by decide +kernel
theorem dX7_costsOf_8 : decode cX7_costsOf 8 = .ok (.iconst 1, 1) := by decide +kernel
theorem dX7_costsOf_9 : decode cX7_costsOf 9 = .ok (.iadd, 1) := by decide +kernel
theorem dX7_costsOf_10 : decode cX7_costsOf 10 = .ok (.istore 4, 2) := by decide +kernel
theorem dX7_costsOf_12 : decode cX7_costsOf 12 = .ok (.iload 4, 2) := by decide +kernel
theorem dX7_costsOf_14 : decode cX7_costsOf 14 = .ok (.bipush 19, 2) := by decide +kernel
theorem dX7_costsOf_16 : decode cX7_costsOf 16 = .ok (.if_icmp .gt 65, 3) := by decide +kernel
theorem dX7_costsOf_19 : decode cX7_costsOf 19 = .ok (.aload_n 0, 1) := by decide +kernel
theorem dX7_costsOf_20 : decode cX7_costsOf 20 = .ok (.iload_n 1, 1) := by decide +kernel
theorem dX7_costsOf_21 : decode cX7_costsOf 21 = .ok (.iload 4, 2) := by decide +kernel
theorem dX7_costsOf_23 : decode cX7_costsOf 23 = .ok (.invokevirtual 112, 3) := by decide +kernel
theorem dX7_costsOf_26 : decode cX7_costsOf 26 = .ok (.istore 5, 2) := by decide +kernel
theorem dX7_costsOf_28 : decode cX7_costsOf 28 = .ok (.aload_n 0, 1) := by decide +kernel
theorem dX7_costsOf_29 : decode cX7_costsOf 29 = .ok (.iload_n 1, 1) := by decide +kernel
theorem dX7_costsOf_30 : decode cX7_costsOf 30 = .ok (.iload 4, 2) := by decide +kernel
theorem dX7_costsOf_32 : decode cX7_costsOf 32 = .ok (.invokevirtual 106, 3) := by decide +kernel
theorem dX7_costsOf_35 : decode cX7_costsOf 35 = .ok (.istore 6, 2) := by decide +kernel
theorem dX7_costsOf_37 : decode cX7_costsOf 37 = .ok (.iload_n 3, 1) := by decide +kernel
theorem dX7_costsOf_38 : decode cX7_costsOf 38 = .ok (.iload 5, 2) := by decide +kernel
theorem dX7_costsOf_40 : decode cX7_costsOf 40 = .ok (.iload_n 2, 1) := by decide +kernel
theorem dX7_costsOf_41 : decode cX7_costsOf 41 = .ok (.if_icmp .le 7, 3) := by decide +kernel
theorem dX7_costsOf_44 : decode cX7_costsOf 44 = .ok (.iconst 0, 1) := by decide +kernel
theorem dX7_costsOf_45 : decode cX7_costsOf 45 = .ok (.goto 28, 3) := by decide +kernel
theorem dX7_costsOf_48 : decode cX7_costsOf 48 = .ok (.iload 5, 2) := by decide +kernel
theorem dX7_costsOf_50 : decode cX7_costsOf 50 = .ok (.aload_n 0, 1) := by decide +kernel
theorem dX7_costsOf_51 : decode cX7_costsOf 51 = .ok (.getfield 7, 3) := by decide +kernel
theorem dX7_costsOf_54 : decode cX7_costsOf 54 = .ok (.iconst 0, 1) := by decide +kernel
theorem dX7_costsOf_55 : decode cX7_costsOf 55 = .ok (.iaload, 1) := by decide +kernel
theorem dX7_costsOf_56 : decode cX7_costsOf 56 = .ok (.if_icmp .ge 15, 3) := by decide +kernel
theorem dX7_costsOf_59 : decode cX7_costsOf 59 = .ok (.iload 6, 2) := by decide +kernel
theorem dX7_costsOf_61 : decode cX7_costsOf 61 = .ok (.aload_n 0, 1) := by decide +kernel
theorem dX7_costsOf_62 : decode cX7_costsOf 62 = .ok (.iload 6, 2) := by decide +kernel
theorem dX7_costsOf_64 : decode cX7_costsOf 64 = .ok (.invokevirtual 109, 3) := by decide +kernel
theorem dX7_costsOf_67 : decode cX7_costsOf 67 = .ok (.iadd, 1) := by decide +kernel
theorem dX7_costsOf_68 : decode cX7_costsOf 68 = .ok (.goto 5, 3) := by decide +kernel
theorem dX7_costsOf_71 : decode cX7_costsOf 71 = .ok (.iload 6, 2) := by decide +kernel
theorem dX7_costsOf_73 : decode cX7_costsOf 73 = .ok (.iadd, 1) := by decide +kernel
theorem dX7_costsOf_74 : decode cX7_costsOf 74 = .ok (.istore_n 3, 1) := by decide +kernel
theorem dX7_costsOf_75 : decode cX7_costsOf 75 = .ok (.iinc 4 1, 3) := by decide +kernel
theorem dX7_costsOf_78 : decode cX7_costsOf 78 = .ok (.goto (-66), 3) := by decide +kernel
theorem dX7_costsOf_81 : decode cX7_costsOf 81 = .ok (.iload_n 3, 1) := by decide +kernel
theorem dX7_costsOf_82 : decode cX7_costsOf 82 = .ok (.ireturn, 1) := by decide +kernel
theorem dX7_costs_0 : decode cX7_costs 0 = .ok (.aload_n 0, 1) := by decide +kernel
theorem dX7_costs_1 : decode cX7_costs 1 = .ok (.iload_n 1, 1) := by decide +kernel
theorem dX7_costs_2 : decode cX7_costs 2 = .ok (.invokestatic 176, 3) := by decide +kernel
theorem dX7_costs_5 : decode cX7_costs 5 = .ok (.ifCond .eq 7, 3) := by decide +kernel
theorem dX7_costs_8 : decode cX7_costs 8 = .ok (.iconst 0, 1) := by decide +kernel
theorem dX7_costs_9 : decode cX7_costs 9 = .ok (.goto 4, 3) := by decide +kernel
theorem dX7_costs_12 : decode cX7_costs 12 = .ok (.iconst 1, 1) := by decide +kernel
theorem dX7_costs_13 : decode cX7_costs 13 = .ok (.invokevirtual 35, 3) := by decide +kernel
theorem dX7_costs_16 : decode cX7_costs 16 = .ok (.ifCond .eq 5, 3) := by decide +kernel
theorem dX7_costs_19 : decode cX7_costs 19 = .ok (.iconst 0, 1) := by decide +kernel
theorem dX7_costs_20 : decode cX7_costs 20 = .ok (.ireturn, 1) := by decide +kernel
theorem dX7_costs_21 : decode cX7_costs 21 = .ok (.iconst 0, 1) := by decide +kernel
theorem dX7_costs_22 : decode cX7_costs 22 = .ok (.istore_n 2, 1) := by decide +kernel
theorem dX7_costs_23 : decode cX7_costs 23 = .ok (.iconst 0, 1) := by decide +kernel
theorem dX7_costs_24 : decode cX7_costs 24 = .ok (.istore_n 3, 1) := by decide +kernel
theorem dX7_costs_25 : decode cX7_costs 25 = .ok (.iload_n 3, 1) := by decide +kernel
theorem dX7_costs_26 : decode cX7_costs 26 = .ok (.aload_n 0, 1) := by decide +kernel
theorem dX7_costs_27 : decode cX7_costs 27 = .ok (.getfield 7, 3) := by decide +kernel
theorem dX7_costs_30 : decode cX7_costs 30 = .ok (.iconst 1, 1) := by decide +kernel
theorem dX7_costs_31 : decode cX7_costs 31 = .ok (.iaload, 1) := by decide +kernel
theorem dX7_costs_32 : decode cX7_costs 32 = .ok (.if_icmp .ge 37, 3) := by decide +kernel
theorem dX7_costs_35 : decode cX7_costs 35 = .ok (.iload_n 2, 1) := by decide +kernel
theorem dX7_costs_36 : decode cX7_costs 36 = .ok (.aload_n 0, 1) := by decide +kernel
theorem dX7_costs_37 : decode cX7_costs 37 = .ok (.iload_n 3, 1) := by decide +kernel
theorem dX7_costs_38 : decode cX7_costs 38 = .ok (.invokevirtual 96, 3) := by decide +kernel
theorem dX7_costs_41 : decode cX7_costs 41 = .ok (.ifCond .eq 7, 3) := by decide +kernel
theorem dX7_costs_44 : decode cX7_costs 44 = .ok (.iconst 0, 1) := by decide +kernel
theorem dX7_costs_45 : decode cX7_costs 45 = .ok (.goto 16, 3) := by decide +kernel
theorem dX7_costs_48 : decode cX7_costs 48 = .ok (.aload_n 0, 1) := by decide +kernel
theorem dX7_costs_49 : decode cX7_costs 49 = .ok (.iload_n 3, 1) := by decide +kernel
theorem dX7_costs_50 : decode cX7_costs 50 = .ok (.aload_n 0, 1) := by decide +kernel
theorem dX7_costs_51 : decode cX7_costs 51 = .ok (.getfield 7, 3) := by decide +kernel
theorem dX7_costs_54 : decode cX7_costs 54 = .ok (.iconst 0, 1) := by decide +kernel
theorem dX7_costs_55 : decode cX7_costs 55 = .ok (.iaload, 1) := by decide +kernel
theorem dX7_costs_56 : decode cX7_costs 56 = .ok (.iload_n 1, 1) := by decide +kernel
theorem dX7_costs_57 : decode cX7_costs 57 = .ok (.iadd, 1) := by decide +kernel
theorem dX7_costs_58 : decode cX7_costs 58 = .ok (.invokevirtual 179, 3) := by decide +kernel
theorem dX7_costs_61 : decode cX7_costs 61 = .ok (.iadd, 1) := by decide +kernel
theorem dX7_costs_62 : decode cX7_costs 62 = .ok (.istore_n 2, 1) := by decide +kernel
theorem dX7_costs_63 : decode cX7_costs 63 = .ok (.iinc 3 1, 3) := by decide +kernel
theorem dX7_costs_66 : decode cX7_costs 66 = .ok (.goto (-41), 3) := by decide +kernel
theorem dX7_costs_69 : decode cX7_costs 69 = .ok (.iload_n 2, 1) := by decide +kernel
theorem dX7_costs_70 : decode cX7_costs 70 = .ok (.ireturn, 1) := by decide +kernel
theorem dX7_lapsing_0 : decode cX7_lapsing 0 = .ok (.aload_n 0, 1) := by decide +kernel
theorem dX7_lapsing_1 : decode cX7_lapsing 1 = .ok (.iload_n 1, 1) := by decide +kernel
theorem dX7_lapsing_2 : decode cX7_lapsing 2 = .ok (.invokestatic 176, 3) := by decide +kernel
theorem dX7_lapsing_5 : decode cX7_lapsing 5 = .ok (.ifCond .eq 7, 3) := by decide +kernel
theorem dX7_lapsing_8 : decode cX7_lapsing 8 = .ok (.iconst 0, 1) := by decide +kernel
theorem dX7_lapsing_9 : decode cX7_lapsing 9 = .ok (.goto 4, 3) := by decide +kernel
theorem dX7_lapsing_12 : decode cX7_lapsing 12 = .ok (.iconst 1, 1) := by decide +kernel
theorem dX7_lapsing_13 : decode cX7_lapsing 13 = .ok (.invokevirtual 35, 3) := by decide +kernel
theorem dX7_lapsing_16 : decode cX7_lapsing 16 = .ok (.ifCond .eq 5, 3) := by decide +kernel
theorem dX7_lapsing_19 : decode cX7_lapsing 19 = .ok (.iconst 0, 1) := by decide +kernel
theorem dX7_lapsing_20 : decode cX7_lapsing 20 = .ok (.ireturn, 1) := by decide +kernel
theorem dX7_lapsing_21 : decode cX7_lapsing 21 = .ok (.iconst 0, 1) := by decide +kernel
theorem dX7_lapsing_22 : decode cX7_lapsing 22 = .ok (.istore_n 2, 1) := by decide +kernel
theorem dX7_lapsing_23 : decode cX7_lapsing 23 = .ok (.iconst 0, 1) := by decide +kernel
theorem dX7_lapsing_24 : decode cX7_lapsing 24 = .ok (.istore_n 3, 1) := by decide +kernel
theorem dX7_lapsing_25 : decode cX7_lapsing 25 = .ok (.iload_n 3, 1) := by decide +kernel
theorem dX7_lapsing_26 : decode cX7_lapsing 26 = .ok (.aload_n 0, 1) := by decide +kernel
theorem dX7_lapsing_27 : decode cX7_lapsing 27 = .ok (.getfield 7, 3) := by decide +kernel
theorem dX7_lapsing_30 : decode cX7_lapsing 30 = .ok (.iconst 1, 1) := by decide +kernel
theorem dX7_lapsing_31 : decode cX7_lapsing 31 = .ok (.iaload, 1) := by decide +kernel
theorem dX7_lapsing_32 : decode cX7_lapsing 32 = .ok (.if_icmp .ge 67, 3) := by decide +kernel
theorem dX7_lapsing_35 : decode cX7_lapsing 35 = .ok (.aload_n 0, 1) := by decide +kernel
theorem dX7_lapsing_36 : decode cX7_lapsing 36 = .ok (.iload_n 3, 1) := by decide +kernel
theorem dX7_lapsing_37 : decode cX7_lapsing 37 = .ok (.invokevirtual 90, 3) := by decide +kernel
theorem dX7_lapsing_40 : decode cX7_lapsing 40 = .ok (.iconst (-1), 1) := by decide +kernel
theorem dX7_lapsing_41 : decode cX7_lapsing 41 = .ok (.if_icmp .eq 36, 3) := by decide +kernel
theorem dX7_lapsing_44 : decode cX7_lapsing 44 = .ok (.aload_n 0, 1) := by decide +kernel
theorem dX7_lapsing_45 : decode cX7_lapsing 45 = .ok (.iload_n 3, 1) := by decide +kernel
theorem dX7_lapsing_46 : decode cX7_lapsing 46 = .ok (.invokevirtual 96, 3) := by decide +kernel
theorem dX7_lapsing_49 : decode cX7_lapsing 49 = .ok (.ifCond .ne 28, 3) := by decide +kernel
theorem dX7_lapsing_52 : decode cX7_lapsing 52 = .ok (.aload_n 0, 1) := by decide +kernel
theorem dX7_lapsing_53 : decode cX7_lapsing 53 = .ok (.iload_n 3, 1) := by decide +kernel
theorem dX7_lapsing_54 : decode cX7_lapsing 54 = .ok (.aload_n 0, 1) := by decide +kernel
theorem dX7_lapsing_55 : decode cX7_lapsing 55 = .ok (.iload_n 3, 1) := by decide +kernel
theorem dX7_lapsing_56 : decode cX7_lapsing 56 = .ok (.invokevirtual 90, 3) := by decide +kernel
theorem dX7_lapsing_59 : decode cX7_lapsing 59 = .ok (.invokevirtual 93, 3) := by decide +kernel
theorem dX7_lapsing_62 : decode cX7_lapsing 62 = .ok (.aload_n 0, 1) := by decide +kernel
theorem dX7_lapsing_63 : decode cX7_lapsing 63 = .ok (.getfield 7, 3) := by decide +kernel
theorem dX7_lapsing_66 : decode cX7_lapsing 66 = .ok (.iconst 0, 1) := by decide +kernel
theorem dX7_lapsing_67 : decode cX7_lapsing 67 = .ok (.iaload, 1) := by decide +kernel
theorem dX7_lapsing_68 : decode cX7_lapsing 68 = .ok (.iload_n 1, 1) := by decide +kernel
theorem dX7_lapsing_69 : decode cX7_lapsing 69 = .ok (.iadd, 1) := by decide +kernel
theorem dX7_lapsing_70 : decode cX7_lapsing 70 = .ok (.if_icmp .ge 7, 3) := by decide +kernel
theorem dX7_lapsing_73 : decode cX7_lapsing 73 = .ok (.iconst 1, 1) := by decide +kernel
theorem dX7_lapsing_74 : decode cX7_lapsing 74 = .ok (.goto 4, 3) := by decide +kernel
theorem dX7_lapsing_77 : decode cX7_lapsing 77 = .ok (.iconst 0, 1) := by decide +kernel
theorem dX7_lapsing_78 : decode cX7_lapsing 78 = .ok (.istore 4, 2) := by decide +kernel
theorem dX7_lapsing_80 : decode cX7_lapsing 80 = .ok (.iload_n 2, 1) := by decide +kernel
theorem dX7_lapsing_81 : decode cX7_lapsing 81 = .ok (.iload 4, 2) := by decide +kernel
theorem dX7_lapsing_83 : decode cX7_lapsing 83 = .ok (.ifCond .eq 7, 3) := by decide +kernel
theorem dX7_lapsing_86 : decode cX7_lapsing 86 = .ok (.iconst 1, 1) := by decide +kernel
theorem dX7_lapsing_87 : decode cX7_lapsing 87 = .ok (.goto 4, 3) := by decide +kernel
theorem dX7_lapsing_90 : decode cX7_lapsing 90 = .ok (.iconst 0, 1) := by decide +kernel
theorem dX7_lapsing_91 : decode cX7_lapsing 91 = .ok (.iadd, 1) := by decide +kernel
theorem dX7_lapsing_92 : decode cX7_lapsing 92 = .ok (.istore_n 2, 1) := by decide +kernel
theorem dX7_lapsing_93 : decode cX7_lapsing 93 = .ok (.iinc 3 1, 3) := by decide +kernel
theorem dX7_lapsing_96 : decode cX7_lapsing 96 = .ok (.goto (-71), 3) := by decide +kernel
theorem dX7_lapsing_99 : decode cX7_lapsing 99 = .ok (.iload_n 2, 1) := by decide +kernel
theorem dX7_lapsing_100 : decode cX7_lapsing 100 = .ok (.ireturn, 1) := by decide +kernel
theorem dX7_share_0 : decode cX7_share 0 = .ok (.aload_n 0, 1) := by decide +kernel
theorem dX7_share_1 : decode cX7_share 1 = .ok (.aload_n 0, 1) := by decide +kernel
theorem dX7_share_2 : decode cX7_share 2 = .ok (.iload_n 1, 1) := by decide +kernel
theorem dX7_share_3 : decode cX7_share 3 = .ok (.invokevirtual 115, 3) := by decide +kernel
theorem dX7_share_6 : decode cX7_share 6 = .ok (.ifCond .eq 7, 3) := by decide +kernel
theorem dX7_share_9 : decode cX7_share 9 = .ok (.iconst 0, 1) := by decide +kernel
theorem dX7_share_10 : decode cX7_share 10 = .ok (.goto 4, 3) := by decide +kernel
theorem dX7_share_13 : decode cX7_share 13 = .ok (.iconst 1, 1) := by decide +kernel
theorem dX7_share_14 : decode cX7_share 14 = .ok (.invokevirtual 35, 3) := by decide +kernel
theorem dX7_share_17 : decode cX7_share 17 = .ok (.ifCond .eq 5, 3) := by decide +kernel
theorem dX7_share_20 : decode cX7_share 20 = .ok (.dconst 0, 1) := by decide +kernel
theorem dX7_share_21 : decode cX7_share 21 = .ok (.dreturn, 1) := by decide +kernel
theorem dX7_share_22 : decode cX7_share 22 = .ok (.aload_n 0, 1) := by decide +kernel
theorem dX7_share_23 : decode cX7_share 23 = .ok (.iload_n 1, 1) := by decide +kernel
theorem dX7_share_24 : decode cX7_share 24 = .ok (.invokevirtual 99, 3) := by decide +kernel
theorem dX7_share_27 : decode cX7_share 27 = .ok (.aload_n 0, 1) := by decide +kernel
theorem dX7_share_28 : decode cX7_share 28 = .ok (.getfield 7, 3) := by decide +kernel
theorem dX7_share_31 : decode cX7_share 31 = .ok (.iconst 0, 1) := by decide +kernel
theorem dX7_share_32 : decode cX7_share 32 = .ok (.iaload, 1) := by decide +kernel
theorem dX7_share_33 : decode cX7_share 33 = .ok (.if_icmp .ge 11, 3) := by decide +kernel
theorem dX7_share_36 : decode cX7_share 36 = .ok (.aload_n 0, 1) := by decide +kernel
theorem dX7_share_37 : decode cX7_share 37 = .ok (.iload_n 1, 1) := by decide +kernel
theorem dX7_share_38 : decode cX7_share 38 = .ok (.invokevirtual 99, 3) := by decide +kernel
theorem dX7_share_41 : decode cX7_share 41 = .ok (.goto 9, 3) := by decide +kernel
theorem dX7_share_44 : decode cX7_share 44 = .ok (.aload_n 0, 1) := by decide +kernel
theorem dX7_share_45 : decode cX7_share 45 = .ok (.getfield 7, 3) := by decide +kernel
theorem dX7_share_48 : decode cX7_share 48 = .ok (.iconst 0, 1) := by decide +kernel
theorem dX7_share_49 : decode cX7_share 49 = .ok (.iaload, 1) := by decide +kernel
theorem dX7_share_50 : decode cX7_share 50 = .ok (.istore_n 2, 1) := by decide +kernel
theorem dX7_share_51 : decode cX7_share 51 = .ok (.aload_n 0, 1) := by decide +kernel
theorem dX7_share_52 : decode cX7_share 52 = .ok (.iload_n 1, 1) := by decide +kernel
theorem dX7_share_53 : decode cX7_share 53 = .ok (.invokevirtual 154, 3) := by decide +kernel
theorem dX7_share_56 : decode cX7_share 56 = .ok (.iconst 0, 1) := by decide +kernel
theorem dX7_share_57 : decode cX7_share 57 = .ok (.istore_n 3, 1) := by decide +kernel
theorem dX7_share_58 : decode cX7_share 58 = .ok (.aload_n 0, 1) := by decide +kernel
theorem dX7_share_59 : decode cX7_share 59 = .ok (.iload_n 1, 1) := by decide +kernel
theorem dX7_share_60 : decode cX7_share 60 = .ok (.iconst 0, 1) := by decide +kernel
theorem dX7_share_61 : decode cX7_share 61 = .ok (.invokevirtual 87, 3) := by decide +kernel
theorem dX7_share_64 : decode cX7_share 64 = .ok (.istore 4, 2) := by decide +kernel
theorem dX7_share_66 : decode cX7_share 66 = .ok (.iload 4, 2) := by decide +kernel
theorem dX7_share_68 : decode cX7_share 68 = .ok (.iload_n 2, 1) := by decide +kernel
theorem dX7_share_69 : decode cX7_share 69 = .ok (.if_icmp .gt 26, 3) := by decide +kernel
theorem dX7_share_72 : decode cX7_share 72 = .ok (.iload_n 3, 1) := by decide +kernel
theorem dX7_share_73 : decode cX7_share 73 = .ok (.aload_n 0, 1) := by decide +kernel
theorem dX7_share_74 : decode cX7_share 74 = .ok (.iload 4, 2) := by decide +kernel
theorem dX7_share_76 : decode cX7_share 76 = .ok (.invokevirtual 157, 3) := by decide +kernel
theorem dX7_share_79 : decode cX7_share 79 = .ok (.ifCond .eq 7, 3) := by decide +kernel
theorem dX7_share_82 : decode cX7_share 82 = .ok (.iconst 1, 1) := by decide +kernel
theorem dX7_share_83 : decode cX7_share 83 = .ok (.goto 4, 3) := by decide +kernel
theorem dX7_share_86 : decode cX7_share 86 = .ok (.iconst 0, 1) := by decide +kernel
theorem dX7_share_87 : decode cX7_share 87 = .ok (.iadd, 1) := by decide +kernel
theorem dX7_share_88 : decode cX7_share 88 = .ok (.istore_n 3, 1) := by decide +kernel
theorem dX7_share_89 : decode cX7_share 89 = .ok (.iinc 4 1, 3) := by decide +kernel
theorem dX7_share_92 : decode cX7_share 92 = .ok (.goto (-26), 3) := by decide +kernel
theorem dX7_share_95 : decode cX7_share 95 = .ok (.iload_n 3, 1) := by decide +kernel
theorem dX7_share_96 : decode cX7_share 96 = .ok (.i2d, 1) := by decide +kernel
theorem dX7_share_97 : decode cX7_share 97 = .ok (.iload_n 2, 1) := by decide +kernel
theorem dX7_share_98 : decode cX7_share 98 = .ok (.aload_n 0, 1) := by decide +kernel
theorem dX7_share_99 : decode cX7_share 99 = .ok (.iload_n 1, 1) := by decide +kernel
theorem dX7_share_100 : decode cX7_share 100 = .ok (.iconst 0, 1) := by decide +kernel
theorem dX7_share_101 : decode cX7_share 101 = .ok (.invokevirtual 87, 3) := by decide +kernel
theorem dX7_share_104 : decode cX7_share 104 = .ok (.isub, 1) := by decide +kernel
theorem dX7_share_105 : decode cX7_share 105 = .ok (.iconst 1, 1) := by decide +kernel
theorem dX7_share_106 : decode cX7_share 106 = .ok (.iadd, 1) := by decide +kernel
theorem dX7_share_107 : decode cX7_share 107 = .ok (.i2d, 1) := by decide +kernel
theorem dX7_share_108 : decode cX7_share 108 = .ok (.ddiv, 1) := by decide +kernel
theorem dX7_share_109 : decode cX7_share 109 = .ok (.dreturn, 1) := by decide +kernel
theorem dX7_append_0 : decode cX7_append 0 = .ok (.aload_n 0, 1) := by decide +kernel
theorem dX7_append_1 : decode cX7_append 1 = .ok (.iload_n 1, 1) := by decide +kernel
theorem dX7_append_2 : decode cX7_append 2 = .ok (.iconst 0, 1) := by decide +kernel
theorem dX7_append_3 : decode cX7_append 3 = .ok (.bipush 127, 2) := by decide +kernel
theorem dX7_append_5 : decode cX7_append 5 = .ok (.invokestatic 63, 3) := by decide +kernel
theorem dX7_append_8 : decode cX7_append 8 = .ok (.ifCond .ne 7, 3) := by decide +kernel
theorem dX7_append_11 : decode cX7_append 11 = .ok (.iconst 1, 1) := by decide +kernel
theorem dX7_append_12 : decode cX7_append 12 = .ok (.goto 17, 3) := by decide +kernel
theorem dX7_append_15 : decode cX7_append 15 = .ok (.aload_n 0, 1) := by decide +kernel
theorem dX7_append_16 : decode cX7_append 16 = .ok (.getfield 182, 3) := by decide +kernel
theorem dX7_append_19 : decode cX7_append 19 = .ok (.bipush 100, 2) := by decide +kernel
theorem dX7_append_21 : decode cX7_append 21 = .ok (.if_icmp .ne 7, 3) := by decide +kernel
theorem dX7_append_24 : decode cX7_append 24 = .ok (.iconst 2, 1) := by decide +kernel
theorem dX7_append_25 : decode cX7_append 25 = .ok (.goto 4, 3) := by decide +kernel
theorem dX7_append_28 : decode cX7_append 28 = .ok (.iconst 0, 1) := by decide +kernel
theorem dX7_append_29 : decode cX7_append 29 = .ok (.invokevirtual 35, 3) := by decide +kernel
theorem dX7_append_32 : decode cX7_append 32 = .ok (.ifCond .eq 5, 3) := by decide +kernel
theorem dX7_append_35 : decode cX7_append 35 = .ok (.iconst 0, 1) := by decide +kernel
theorem dX7_append_36 : decode cX7_append 36 = .ok (.ireturn, 1) := by decide +kernel
theorem dX7_append_37 : decode cX7_append 37 = .ok (.aload_n 0, 1) := by decide +kernel
theorem dX7_append_38 : decode cX7_append 38 = .ok (.getfield 19, 3) := by decide +kernel
theorem dX7_append_41 : decode cX7_append 41 = .ok (.aload_n 0, 1) := by decide +kernel
theorem dX7_append_42 : decode cX7_append 42 = .ok (.getfield 182, 3) := by decide +kernel
theorem dX7_append_45 : decode cX7_append 45 = .ok (.iload_n 1, 1) := by decide +kernel
theorem dX7_append_46 : decode cX7_append 46 = .ok (.iastore, 1) := by decide +kernel
theorem dX7_append_47 : decode cX7_append 47 = .ok (.aload_n 0, 1) := by decide +kernel
theorem dX7_append_48 : decode cX7_append 48 = .ok (.dup, 1) := by decide +kernel
theorem dX7_append_49 : decode cX7_append 49 = .ok (.getfield 182, 3) := by decide +kernel
theorem dX7_append_52 : decode cX7_append 52 = .ok (.iconst 1, 1) := by decide +kernel
theorem dX7_append_53 : decode cX7_append 53 = .ok (.iadd, 1) := by decide +kernel
theorem dX7_append_54 : decode cX7_append 54 = .ok (.putfield 182, 3) := by decide +kernel
theorem dX7_append_57 : decode cX7_append 57 = .ok (.aload_n 0, 1) := by decide +kernel
theorem dX7_append_58 : decode cX7_append 58 = .ok (.getfield 182, 3) := by decide +kernel
theorem dX7_append_61 : decode cX7_append 61 = .ok (.ireturn, 1) := by decide +kernel
theorem dX7_clearText_0 : decode cX7_clearText 0 = .ok (.aload_n 0, 1) := by decide +kernel
theorem dX7_clearText_1 : decode cX7_clearText 1 = .ok (.iconst 0, 1) := by decide +kernel
theorem dX7_clearText_2 : decode cX7_clearText 2 = .ok (.putfield 28, 3) := by decide +kernel
theorem dX7_clearText_5 : decode cX7_clearText 5 = .ok (.aload_n 0, 1) := by decide +kernel
theorem dX7_clearText_6 : decode cX7_clearText 6 = .ok (.getfield 182, 3) := by decide +kernel
theorem dX7_clearText_9 : decode cX7_clearText 9 = .ok (.istore_n 1, 1) := by decide +kernel
theorem dX7_clearText_10 : decode cX7_clearText 10 = .ok (.aload_n 0, 1) := by decide +kernel
theorem dX7_clearText_11 : decode cX7_clearText 11 = .ok (.iconst 0, 1) := by decide +kernel
theorem dX7_clearText_12 : decode cX7_clearText 12 = .ok (.putfield 182, 3) := by decide +kernel
theorem dX7_clearText_15 : decode cX7_clearText 15 = .ok (.iload_n 1, 1) := by decide +kernel
theorem dX7_clearText_16 : decode cX7_clearText 16 = .ok (.ireturn, 1) := by decide +kernel
theorem dX7_isAt_0 : decode cX7_isAt 0 = .ok (.aload_n 0, 1) := by decide +kernel
theorem dX7_isAt_1 : decode cX7_isAt 1 = .ok (.getfield 185, 3) := by decide +kernel
theorem dX7_isAt_4 : decode cX7_isAt 4 = .ok (.aload_n 0, 1) := by decide +kernel
theorem dX7_isAt_5 : decode cX7_isAt 5 = .ok (.getfield 182, 3) := by decide +kernel
theorem dX7_isAt_8 : decode cX7_isAt 8 = .ok (.if_icmp .ge 24, 3) := by decide +kernel
theorem dX7_isAt_11 : decode cX7_isAt 11 = .ok (.aload_n 0, 1) := by decide +kernel
theorem dX7_isAt_12 : decode cX7_isAt 12 = .ok (.getfield 19, 3) := by decide +kernel
theorem dX7_isAt_15 : decode cX7_isAt 15 = .ok (.aload_n 0, 1) := by decide +kernel
theorem dX7_isAt_16 : decode cX7_isAt 16 = .ok (.getfield 185, 3) := by decide +kernel
theorem dX7_isAt_19 : decode cX7_isAt 19 = .ok (.iaload, 1) := by decide +kernel
theorem dX7_isAt_20 : decode cX7_isAt 20 = .ok (.iload_n 1, 1) := by decide +kernel
theorem dX7_isAt_21 : decode cX7_isAt 21 = .ok (.iload_n 2, 1) := by decide +kernel
theorem dX7_isAt_22 : decode cX7_isAt 22 = .ok (.invokestatic 63, 3) := by decide +kernel
theorem dX7_isAt_25 : decode cX7_isAt 25 = .ok (.ifCond .eq 7, 3) := by decide +kernel
theorem dX7_isAt_28 : decode cX7_isAt 28 = .ok (.iconst 1, 1) := by decide +kernel
theorem dX7_isAt_29 : decode cX7_isAt 29 = .ok (.goto 4, 3) := by decide +kernel
theorem dX7_isAt_32 : decode cX7_isAt 32 = .ok (.iconst 0, 1) := by decide +kernel
theorem dX7_isAt_33 : decode cX7_isAt 33 = .ok (.ireturn, 1) := by decide +kernel
theorem dX7_takes_0 : decode cX7_takes 0 = .ok (.aload_n 0, 1) := by decide +kernel
theorem dX7_takes_1 : decode cX7_takes 1 = .ok (.iload_n 1, 1) := by decide +kernel
theorem dX7_takes_2 : decode cX7_takes 2 = .ok (.iload_n 1, 1) := by decide +kernel
theorem dX7_takes_3 : decode cX7_takes 3 = .ok (.invokevirtual 188, 3) := by decide +kernel
theorem dX7_takes_6 : decode cX7_takes 6 = .ok (.istore_n 2, 1) := by decide +kernel
theorem dX7_takes_7 : decode cX7_takes 7 = .ok (.aload_n 0, 1) := by decide +kernel
theorem dX7_takes_8 : decode cX7_takes 8 = .ok (.dup, 1) := by decide +kernel
theorem dX7_takes_9 : decode cX7_takes 9 = .ok (.getfield 185, 3) := by decide +kernel
theorem dX7_takes_12 : decode cX7_takes 12 = .ok (.iload_n 2, 1) := by decide +kernel
theorem dX7_takes_13 : decode cX7_takes 13 = .ok (.ifCond .eq 7, 3) := by decide +kernel
theorem dX7_takes_16 : decode cX7_takes 16 = .ok (.iconst 1, 1) := by decide +kernel
theorem dX7_takes_17 : decode cX7_takes 17 = .ok (.goto 4, 3) := by decide +kernel
theorem dX7_takes_20 : decode cX7_takes 20 = .ok (.iconst 0, 1) := by decide +kernel
theorem dX7_takes_21 : decode cX7_takes 21 = .ok (.iadd, 1) := by decide +kernel
theorem dX7_takes_22 : decode cX7_takes 22 = .ok (.putfield 185, 3) := by decide +kernel
theorem dX7_takes_25 : decode cX7_takes 25 = .ok (.iload_n 2, 1) := by decide +kernel
theorem dX7_takes_26 : decode cX7_takes 26 = .ok (.ireturn, 1) := by decide +kernel
theorem dX7_takesNumber_0 : decode cX7_takesNumber 0 = .ok (.aload_n 0, 1) := by decide +kernel
theorem dX7_takesNumber_1 : decode cX7_takesNumber 1 = .ok (.getfield 185, 3) := by decide +kernel
theorem dX7_takesNumber_4 : decode cX7_takesNumber 4 = .ok (.istore_n 3, 1) := by decide +kernel
theorem dX7_takesNumber_5 : decode cX7_takesNumber 5 = .ok (.iconst 0, 1) := by decide +kernel
theorem dX7_takesNumber_6 : decode cX7_takesNumber 6 = .ok (.istore 4, 2) := by decide +kernel
theorem dX7_takesNumber_8 : decode cX7_takesNumber 8 = .ok (.aload_n 0, 1) := by decide +kernel
theorem dX7_takesNumber_9 : decode cX7_takesNumber 9 = .ok (.bipush 48, 2) := by decide +kernel
theorem dX7_takesNumber_11 : decode cX7_takesNumber 11 = .ok (.bipush 57, 2) := by decide +kernel
theorem dX7_takesNumber_13 : decode cX7_takesNumber 13 = .ok (.invokevirtual 188, 3) := by decide +kernel
theorem dX7_takesNumber_16 : decode cX7_takesNumber 16 = .ok (.ifCond .eq 46, 3) := by decide +kernel
theorem dX7_takesNumber_19 : decode cX7_takesNumber 19 = .ok (.aload_n 0, 1) := by decide +kernel
theorem dX7_takesNumber_20 : decode cX7_takesNumber 20 = .ok (.getfield 185, 3) := by decide +kernel
theorem dX7_takesNumber_23 : decode cX7_takesNumber 23 = .ok (.iload_n 3, 1) := by decide +kernel
theorem dX7_takesNumber_24 : decode cX7_takesNumber 24 = .ok (.iconst 2, 1) := by decide +kernel
theorem dX7_takesNumber_25 : decode cX7_takesNumber 25 = .ok (.iadd, 1) := by decide +kernel
theorem dX7_takesNumber_26 : decode cX7_takesNumber 26 = .ok (.if_icmp .ge 36, 3) := by decide +kernel
theorem dX7_takesNumber_29 : decode cX7_takesNumber 29 = .ok (.bipush 10, 2) := by decide +kernel
theorem dX7_takesNumber_31 : decode cX7_takesNumber 31 = .ok (.iload 4, 2) := by decide +kernel
theorem dX7_takesNumber_33 : decode cX7_takesNumber 33 = .ok (.imul, 1) := by decide +kernel
theorem dX7_takesNumber_34 : decode cX7_takesNumber 34 = .ok (.aload_n 0, 1) := by decide +kernel
theorem dX7_takesNumber_35 : decode cX7_takesNumber 35 = .ok (.getfield 19, 3) := by decide +kernel
theorem dX7_takesNumber_38 : decode cX7_takesNumber 38 = .ok (.aload_n 0, 1) := by decide +kernel
theorem dX7_takesNumber_39 : decode cX7_takesNumber 39 = .ok (.getfield 185, 3) := by decide +kernel
theorem dX7_takesNumber_42 : decode cX7_takesNumber 42 = .ok (.iaload, 1) := by decide +kernel
theorem dX7_takesNumber_43 : decode cX7_takesNumber 43 = .ok (.iadd, 1) := by decide +kernel
theorem dX7_takesNumber_44 : decode cX7_takesNumber 44 = .ok (.bipush 48, 2) := by decide +kernel
theorem dX7_takesNumber_46 : decode cX7_takesNumber 46 = .ok (.isub, 1) := by decide +kernel
theorem dX7_takesNumber_47 : decode cX7_takesNumber 47 = .ok (.istore 4, 2) := by decide +kernel
theorem dX7_takesNumber_49 : decode cX7_takesNumber 49 = .ok (.aload_n 0, 1) := by decide +kernel
theorem dX7_takesNumber_50 : decode cX7_takesNumber 50 = .ok (.dup, 1) := by decide +kernel
theorem dX7_takesNumber_51 : decode cX7_takesNumber 51 = .ok (.getfield 185, 3) := by decide +kernel
theorem dX7_takesNumber_54 : decode cX7_takesNumber 54 = .ok (.iconst 1, 1) := by decide +kernel
theorem dX7_takesNumber_55 : decode cX7_takesNumber 55 = .ok (.iadd, 1) := by decide +kernel
theorem dX7_takesNumber_56 : decode cX7_takesNumber 56 = .ok (.putfield 185, 3) := by decide +kernel
theorem dX7_takesNumber_59 : decode cX7_takesNumber 59 = .ok (.goto (-51), 3) := by decide +kernel
theorem dX7_takesNumber_62 : decode cX7_takesNumber 62 = .ok (.aload_n 0, 1) := by decide +kernel
theorem dX7_takesNumber_63 : decode cX7_takesNumber 63 = .ok (.getfield 185, 3) := by decide +kernel
theorem dX7_takesNumber_66 : decode cX7_takesNumber 66 = .ok (.iload_n 3, 1) := by decide +kernel
theorem dX7_takesNumber_67 : decode cX7_takesNumber 67 = .ok (.if_icmp .eq 14, 3) := by decide +kernel
theorem dX7_takesNumber_70 : decode cX7_takesNumber 70 = .ok (.aload_n 0, 1) := by decide +kernel
theorem dX7_takesNumber_71 : decode cX7_takesNumber 71 = .ok (.bipush 48, 2) := by decide +kernel
theorem dX7_takesNumber_73 : decode cX7_takesNumber 73 = .ok (.bipush 57, 2) := by decide +kernel
theorem dX7_takesNumber_75 : decode cX7_takesNumber 75 = .ok (.invokevirtual 188, 3) := by decide +kernel
theorem dX7_takesNumber_78 : decode cX7_takesNumber 78 = .ok (.ifCond .eq 5, 3) := by decide +kernel
theorem dX7_takesNumber_81 : decode cX7_takesNumber 81 = .ok (.iconst 0, 1) := by decide +kernel
theorem dX7_takesNumber_82 : decode cX7_takesNumber 82 = .ok (.ireturn, 1) := by decide +kernel
theorem dX7_takesNumber_83 : decode cX7_takesNumber 83 = .ok (.aload_n 0, 1) := by decide +kernel
theorem dX7_takesNumber_84 : decode cX7_takesNumber 84 = .ok (.iload 4, 2) := by decide +kernel
theorem dX7_takesNumber_86 : decode cX7_takesNumber 86 = .ok (.putfield 191, 3) := by decide +kernel
theorem dX7_takesNumber_89 : decode cX7_takesNumber 89 = .ok (.iload 4, 2) := by decide +kernel
theorem dX7_takesNumber_91 : decode cX7_takesNumber 91 = .ok (.iload_n 1, 1) := by decide +kernel
theorem dX7_takesNumber_92 : decode cX7_takesNumber 92 = .ok (.iload_n 2, 1) := by decide +kernel
theorem dX7_takesNumber_93 : decode cX7_takesNumber 93 = .ok (.invokestatic 63, 3) := by decide +kernel
theorem dX7_takesNumber_96 : decode cX7_takesNumber 96 = .ok (.istore 5, 2) := by decide +kernel
theorem dX7_takesNumber_98 : decode cX7_takesNumber 98 = .ok (.aload_n 0, 1) := by decide +kernel
theorem dX7_takesNumber_99 : decode cX7_takesNumber 99 = .ok (.iload 5, 2) := by decide +kernel
theorem dX7_takesNumber_101 : decode cX7_takesNumber 101 = .ok (.ifCond .eq 10, 3) := by decide +kernel
theorem dX7_takesNumber_104 : decode cX7_takesNumber 104 = .ok (.aload_n 0, 1) := by decide +kernel
theorem dX7_takesNumber_105 : decode cX7_takesNumber 105 = .ok (.getfield 185, 3) := by decide +kernel
theorem dX7_takesNumber_108 : decode cX7_takesNumber 108 = .ok (.goto 4, 3) := by decide +kernel
theorem dX7_takesNumber_111 : decode cX7_takesNumber 111 = .ok (.iload_n 3, 1) := by decide +kernel
theorem dX7_takesNumber_112 : decode cX7_takesNumber 112 = .ok (.putfield 185, 3) := by decide +kernel
theorem dX7_takesNumber_115 : decode cX7_takesNumber 115 = .ok (.iload 5, 2) := by decide +kernel
theorem dX7_takesNumber_117 : decode cX7_takesNumber 117 = .ok (.ireturn, 1) := by decide +kernel
theorem dX7_takesRight_0 : decode cX7_takesRight 0 = .ok (.aload_n 0, 1) := by decide +kernel
theorem dX7_takesRight_1 : decode cX7_takesRight 1 = .ok (.getfield 7, 3) := by decide +kernel
theorem dX7_takesRight_4 : decode cX7_takesRight 4 = .ok (.iconst 1, 1) := by decide +kernel
theorem dX7_takesRight_5 : decode cX7_takesRight 5 = .ok (.iaload, 1) := by decide +kernel
theorem dX7_takesRight_6 : decode cX7_takesRight 6 = .ok (.bipush 10, 2) := by decide +kernel
theorem dX7_takesRight_8 : decode cX7_takesRight 8 = .ok (.if_icmp .eq 13, 3) := by decide +kernel
theorem dX7_takesRight_11 : decode cX7_takesRight 11 = .ok (.aload_n 0, 1) := by decide +kernel
theorem dX7_takesRight_12 : decode cX7_takesRight 12 = .ok (.iconst 0, 1) := by decide +kernel
theorem dX7_takesRight_13 : decode cX7_takesRight 13 = .ok (.bipush 49, 2) := by decide +kernel
theorem dX7_takesRight_15 : decode cX7_takesRight 15 = .ok (.invokevirtual 194, 3) := by decide +kernel
theorem dX7_takesRight_18 : decode cX7_takesRight 18 = .ok (.ifCond .ne 5, 3) := by decide +kernel
theorem dX7_takesRight_21 : decode cX7_takesRight 21 = .ok (.iconst 0, 1) := by decide +kernel
theorem dX7_takesRight_22 : decode cX7_takesRight 22 = .ok (.ireturn, 1) := by decide +kernel
theorem dX7_takesRight_23 : decode cX7_takesRight 23 = .ok (.aload_n 0, 1) := by decide +kernel
theorem dX7_takesRight_24 : decode cX7_takesRight 24 = .ok (.getfield 191, 3) := by decide +kernel
theorem dX7_takesRight_27 : decode cX7_takesRight 27 = .ok (.istore_n 1, 1) := by decide +kernel
theorem dX7_takesRight_28 : decode cX7_takesRight 28 = .ok (.aload_n 0, 1) := by decide +kernel
theorem dX7_takesRight_29 : decode cX7_takesRight 29 = .ok (.bipush 45, 2) := by decide +kernel
theorem dX7_takesRight_31 : decode cX7_takesRight 31 = .ok (.invokevirtual 197, 3) := by decide +kernel
theorem dX7_takesRight_34 : decode cX7_takesRight 34 = .ok (.ifCond .eq 13, 3) := by decide +kernel
theorem dX7_takesRight_37 : decode cX7_takesRight 37 = .ok (.aload_n 0, 1) := by decide +kernel
theorem dX7_takesRight_38 : decode cX7_takesRight 38 = .ok (.iconst 1, 1) := by decide +kernel
theorem dX7_takesRight_39 : decode cX7_takesRight 39 = .ok (.bipush 12, 2) := by decide +kernel
theorem dX7_takesRight_41 : decode cX7_takesRight 41 = .ok (.invokevirtual 194, 3) := by decide +kernel
theorem dX7_takesRight_44 : decode cX7_takesRight 44 = .ok (.ifCond .ne 5, 3) := by decide +kernel
theorem dX7_takesRight_47 : decode cX7_takesRight 47 = .ok (.iconst 0, 1) := by decide +kernel
theorem dX7_takesRight_48 : decode cX7_takesRight 48 = .ok (.ireturn, 1) := by decide +kernel
theorem dX7_takesRight_49 : decode cX7_takesRight 49 = .ok (.aload_n 0, 1) := by decide +kernel
theorem dX7_takesRight_50 : decode cX7_takesRight 50 = .ok (.getfield 191, 3) := by decide +kernel
theorem dX7_takesRight_53 : decode cX7_takesRight 53 = .ok (.istore_n 2, 1) := by decide +kernel
theorem dX7_takesRight_54 : decode cX7_takesRight 54 = .ok (.aload_n 0, 1) := by decide +kernel
theorem dX7_takesRight_55 : decode cX7_takesRight 55 = .ok (.bipush 45, 2) := by decide +kernel
theorem dX7_takesRight_57 : decode cX7_takesRight 57 = .ok (.invokevirtual 197, 3) := by decide +kernel
theorem dX7_takesRight_60 : decode cX7_takesRight 60 = .ok (.ifCond .eq 16, 3) := by decide +kernel
theorem dX7_takesRight_63 : decode cX7_takesRight 63 = .ok (.aload_n 0, 1) := by decide +kernel
theorem dX7_takesRight_64 : decode cX7_takesRight 64 = .ok (.iconst 1, 1) := by decide +kernel
theorem dX7_takesRight_65 : decode cX7_takesRight 65 = .ok (.iload_n 1, 1) := by decide +kernel
theorem dX7_takesRight_66 : decode cX7_takesRight 66 = .ok (.iload_n 2, 1) := by decide +kernel
theorem dX7_takesRight_67 : decode cX7_takesRight 67 = .ok (.invokestatic 43, 3) := by decide +kernel
theorem dX7_takesRight_70 : decode cX7_takesRight 70 = .ok (.invokevirtual 194, 3) := by decide +kernel
theorem dX7_takesRight_73 : decode cX7_takesRight 73 = .ok (.ifCond .ne 5, 3) := by decide +kernel
theorem dX7_takesRight_76 : decode cX7_takesRight 76 = .ok (.iconst 0, 1) := by decide +kernel
theorem dX7_takesRight_77 : decode cX7_takesRight 77 = .ok (.ireturn, 1) := by decide +kernel
theorem dX7_takesRight_78 : decode cX7_takesRight 78 = .ok (.aload_n 0, 1) := by decide +kernel
theorem dX7_takesRight_79 : decode cX7_takesRight 79 = .ok (.getfield 191, 3) := by decide +kernel
theorem dX7_takesRight_82 : decode cX7_takesRight 82 = .ok (.istore_n 3, 1) := by decide +kernel
theorem dX7_takesRight_83 : decode cX7_takesRight 83 = .ok (.aload_n 0, 1) := by decide +kernel
theorem dX7_takesRight_84 : decode cX7_takesRight 84 = .ok (.bipush 115, 2) := by decide +kernel
theorem dX7_takesRight_86 : decode cX7_takesRight 86 = .ok (.invokevirtual 197, 3) := by decide +kernel
theorem dX7_takesRight_89 : decode cX7_takesRight 89 = .ok (.istore 4, 2) := by decide +kernel
theorem dX7_takesRight_91 : decode cX7_takesRight 91 = .ok (.aload_n 0, 1) := by decide +kernel
theorem dX7_takesRight_92 : decode cX7_takesRight 92 = .ok (.bipush 59, 2) := by decide +kernel
theorem dX7_takesRight_94 : decode cX7_takesRight 94 = .ok (.invokevirtual 197, 3) := by decide +kernel
theorem dX7_takesRight_97 : decode cX7_takesRight 97 = .ok (.ifCond .ne 5, 3) := by decide +kernel
theorem dX7_takesRight_100 : decode cX7_takesRight 100 = .ok (.iconst 0, 1) := by decide +kernel
theorem dX7_takesRight_101 : decode cX7_takesRight 101 = .ok (.ireturn, 1) := by decide +kernel
theorem dX7_takesRight_102 : decode cX7_takesRight 102 = .ok (.aload_n 0, 1) := by decide +kernel
theorem dX7_takesRight_103 : decode cX7_takesRight 103 = .ok (.iload_n 1, 1) := by decide +kernel
theorem dX7_takesRight_104 : decode cX7_takesRight 104 = .ok (.iload_n 2, 1) := by decide +kernel
theorem dX7_takesRight_105 : decode cX7_takesRight 105 = .ok (.iload_n 3, 1) := by decide +kernel
theorem dX7_takesRight_106 : decode cX7_takesRight 106 = .ok (.invokestatic 53, 3) := by decide +kernel
theorem dX7_takesRight_109 : decode cX7_takesRight 109 = .ok (.iload 4, 2) := by decide +kernel
theorem dX7_takesRight_111 : decode cX7_takesRight 111 = .ok (.invokevirtual 83, 3) := by decide +kernel
theorem dX7_takesRight_114 : decode cX7_takesRight 114 = .ok (.istore 5, 2) := by decide +kernel
theorem dX7_takesRight_116 : decode cX7_takesRight 116 = .ok (.iconst 1, 1) := by decide +kernel
theorem dX7_takesRight_117 : decode cX7_takesRight 117 = .ok (.ireturn, 1) := by decide +kernel
theorem dX7_parse_0 : decode cX7_parse 0 = .ok (.aload_n 0, 1) := by decide +kernel
theorem dX7_parse_1 : decode cX7_parse 1 = .ok (.iconst 0, 1) := by decide +kernel
theorem dX7_parse_2 : decode cX7_parse 2 = .ok (.putfield 28, 3) := by decide +kernel
theorem dX7_parse_5 : decode cX7_parse 5 = .ok (.iconst 0, 1) := by decide +kernel
theorem dX7_parse_6 : decode cX7_parse 6 = .ok (.istore_n 1, 1) := by decide +kernel
theorem dX7_parse_7 : decode cX7_parse 7 = .ok (.iload_n 1, 1) := by decide +kernel
theorem dX7_parse_8 : decode cX7_parse 8 = .ok (.sipush 366, 3) := by decide +kernel
theorem dX7_parse_11 : decode cX7_parse 11 = .ok (.if_icmp .ge 21, 3) := by decide +kernel
theorem dX7_parse_14 : decode cX7_parse 14 = .ok (.aload_n 0, 1) := by decide +kernel
theorem dX7_parse_15 : decode cX7_parse 15 = .ok (.getfield 16, 3) := by decide +kernel
theorem dX7_parse_18 : decode cX7_parse 18 = .ok (.iload_n 1, 1) := by decide +kernel
theorem dX7_parse_19 : decode cX7_parse 19 = .ok (.aload_n 0, 1) := by decide +kernel
theorem dX7_parse_20 : decode cX7_parse 20 = .ok (.getfield 7, 3) := by decide +kernel
theorem dX7_parse_23 : decode cX7_parse 23 = .ok (.iload_n 1, 1) := by decide +kernel
theorem dX7_parse_24 : decode cX7_parse 24 = .ok (.iaload, 1) := by decide +kernel
theorem dX7_parse_25 : decode cX7_parse 25 = .ok (.iastore, 1) := by decide +kernel
theorem dX7_parse_26 : decode cX7_parse 26 = .ok (.iinc 1 1, 3) := by decide +kernel
theorem dX7_parse_29 : decode cX7_parse 29 = .ok (.goto (-22), 3) := by decide +kernel
theorem dX7_parse_32 : decode cX7_parse 32 = .ok (.aload_n 0, 1) := by decide +kernel
theorem dX7_parse_33 : decode cX7_parse 33 = .ok (.getfield 7, 3) := by decide +kernel
theorem dX7_parse_36 : decode cX7_parse 36 = .ok (.iconst 1, 1) := by decide +kernel
theorem dX7_parse_37 : decode cX7_parse 37 = .ok (.iconst 0, 1) := by decide +kernel
theorem dX7_parse_38 : decode cX7_parse 38 = .ok (.iastore, 1) := by decide +kernel
theorem dX7_parse_39 : decode cX7_parse 39 = .ok (.aload_n 0, 1) := by decide +kernel
theorem dX7_parse_40 : decode cX7_parse 40 = .ok (.iconst 0, 1) := by decide +kernel
theorem dX7_parse_41 : decode cX7_parse 41 = .ok (.putfield 185, 3) := by decide +kernel
theorem dX7_parse_44 : decode cX7_parse 44 = .ok (.iconst 1, 1) := by decide +kernel
theorem dX7_parse_45 : decode cX7_parse 45 = .ok (.istore_n 1, 1) := by decide +kernel
theorem dX7_parse_46 : decode cX7_parse 46 = .ok (.iload_n 1, 1) := by decide +kernel
theorem dX7_parse_47 : decode cX7_parse 47 = .ok (.ifCond .eq 22, 3) := by decide +kernel
theorem dX7_parse_50 : decode cX7_parse 50 = .ok (.aload_n 0, 1) := by decide +kernel
theorem dX7_parse_51 : decode cX7_parse 51 = .ok (.getfield 185, 3) := by decide +kernel
theorem dX7_parse_54 : decode cX7_parse 54 = .ok (.aload_n 0, 1) := by decide +kernel
theorem dX7_parse_55 : decode cX7_parse 55 = .ok (.getfield 182, 3) := by decide +kernel
theorem dX7_parse_58 : decode cX7_parse 58 = .ok (.if_icmp .ge 11, 3) := by decide +kernel
theorem dX7_parse_61 : decode cX7_parse 61 = .ok (.aload_n 0, 1) := by decide +kernel
theorem dX7_parse_62 : decode cX7_parse 62 = .ok (.invokevirtual 200, 3) := by decide +kernel
theorem dX7_parse_65 : decode cX7_parse 65 = .ok (.istore_n 1, 1) := by decide +kernel
theorem dX7_parse_66 : decode cX7_parse 66 = .ok (.goto (-20), 3) := by decide +kernel
theorem dX7_parse_69 : decode cX7_parse 69 = .ok (.aload_n 0, 1) := by decide +kernel
theorem dX7_parse_70 : decode cX7_parse 70 = .ok (.invokevirtual 204, 3) := by decide +kernel
theorem dX7_parse_73 : decode cX7_parse 73 = .ok (.iload_n 1, 1) := by decide +kernel
theorem dX7_parse_74 : decode cX7_parse 74 = .ok (.ifCond .ne 11, 3) := by decide +kernel
theorem dX7_parse_77 : decode cX7_parse 77 = .ok (.bipush (-10), 2) := by decide +kernel
theorem dX7_parse_79 : decode cX7_parse 79 = .ok (.aload_n 0, 1) := by decide +kernel
theorem dX7_parse_80 : decode cX7_parse 80 = .ok (.getfield 185, 3) := by decide +kernel
theorem dX7_parse_83 : decode cX7_parse 83 = .ok (.isub, 1) := by decide +kernel
theorem dX7_parse_84 : decode cX7_parse 84 = .ok (.ireturn, 1) := by decide +kernel
theorem dX7_parse_85 : decode cX7_parse 85 = .ok (.aload_n 0, 1) := by decide +kernel
theorem dX7_parse_86 : decode cX7_parse 86 = .ok (.invokevirtual 73, 3) := by decide +kernel
theorem dX7_parse_89 : decode cX7_parse 89 = .ok (.aload_n 0, 1) := by decide +kernel
theorem dX7_parse_90 : decode cX7_parse 90 = .ok (.invokevirtual 204, 3) := by decide +kernel
theorem dX7_parse_93 : decode cX7_parse 93 = .ok (.iconst (-1), 1) := by decide +kernel
theorem dX7_parse_94 : decode cX7_parse 94 = .ok (.istore_n 2, 1) := by decide +kernel
theorem dX7_parse_95 : decode cX7_parse 95 = .ok (.iconst 0, 1) := by decide +kernel
theorem dX7_parse_96 : decode cX7_parse 96 = .ok (.istore_n 3, 1) := by decide +kernel
theorem dX7_parse_97 : decode cX7_parse 97 = .ok (.iload_n 3, 1) := by decide +kernel
theorem dX7_parse_98 : decode cX7_parse 98 = .ok (.aload_n 0, 1) := by decide +kernel
theorem dX7_parse_99 : decode cX7_parse 99 = .ok (.getfield 7, 3) := by decide +kernel
theorem dX7_parse_102 : decode cX7_parse 102 = .ok (.iconst 1, 1) := by decide +kernel
theorem dX7_parse_103 : decode cX7_parse 103 = .ok (.iaload, 1) := by decide +kernel
theorem dX7_parse_104 : decode cX7_parse 104 = .ok (.if_icmp .ge 30, 3) := by decide +kernel
theorem dX7_parse_107 : decode cX7_parse 107 = .ok (.aload_n 0, 1) := by decide +kernel
theorem dX7_parse_108 : decode cX7_parse 108 = .ok (.iload_n 3, 1) := by decide +kernel
theorem dX7_parse_109 : decode cX7_parse 109 = .ok (.iconst 0, 1) := by decide +kernel
theorem dX7_parse_110 : decode cX7_parse 110 = .ok (.invokevirtual 87, 3) := by decide +kernel
theorem dX7_parse_113 : decode cX7_parse 113 = .ok (.iload_n 2, 1) := by decide +kernel
theorem dX7_parse_114 : decode cX7_parse 114 = .ok (.if_icmp .le 12, 3) := by decide +kernel
theorem dX7_parse_117 : decode cX7_parse 117 = .ok (.aload_n 0, 1) := by decide +kernel
theorem dX7_parse_118 : decode cX7_parse 118 = .ok (.iload_n 3, 1) := by decide +kernel
theorem dX7_parse_119 : decode cX7_parse 119 = .ok (.iconst 0, 1) := by decide +kernel
theorem dX7_parse_120 : decode cX7_parse 120 = .ok (.invokevirtual 87, 3) := by decide +kernel
theorem dX7_parse_123 : decode cX7_parse 123 = .ok (.goto 4, 3) := by decide +kernel
theorem dX7_parse_126 : decode cX7_parse 126 = .ok (.iload_n 2, 1) := by decide +kernel
theorem dX7_parse_127 : decode cX7_parse 127 = .ok (.istore_n 2, 1) := by decide +kernel
theorem dX7_parse_128 : decode cX7_parse 128 = .ok (.iinc 3 1, 3) := by decide +kernel
theorem dX7_parse_131 : decode cX7_parse 131 = .ok (.goto (-34), 3) := by decide +kernel
theorem dX7_parse_134 : decode cX7_parse 134 = .ok (.aload_n 0, 1) := by decide +kernel
theorem dX7_parse_135 : decode cX7_parse 135 = .ok (.getfield 7, 3) := by decide +kernel
theorem dX7_parse_138 : decode cX7_parse 138 = .ok (.iconst 0, 1) := by decide +kernel
theorem dX7_parse_139 : decode cX7_parse 139 = .ok (.iload_n 2, 1) := by decide +kernel
theorem dX7_parse_140 : decode cX7_parse 140 = .ok (.iconst (-1), 1) := by decide +kernel
theorem dX7_parse_141 : decode cX7_parse 141 = .ok (.if_icmp .ne 12, 3) := by decide +kernel
theorem dX7_parse_144 : decode cX7_parse 144 = .ok (.aload_n 0, 1) := by decide +kernel
theorem dX7_parse_145 : decode cX7_parse 145 = .ok (.getfield 7, 3) := by decide +kernel
theorem dX7_parse_148 : decode cX7_parse 148 = .ok (.iconst 0, 1) := by decide +kernel
theorem dX7_parse_149 : decode cX7_parse 149 = .ok (.iaload, 1) := by decide +kernel
theorem dX7_parse_150 : decode cX7_parse 150 = .ok (.goto 4, 3) := by decide +kernel
theorem dX7_parse_153 : decode cX7_parse 153 = .ok (.iload_n 2, 1) := by decide +kernel
theorem dX7_parse_154 : decode cX7_parse 154 = .ok (.iastore, 1) := by decide +kernel
theorem dX7_parse_155 : decode cX7_parse 155 = .ok (.aload_n 0, 1) := by decide +kernel
theorem dX7_parse_156 : decode cX7_parse 156 = .ok (.getfield 7, 3) := by decide +kernel
theorem dX7_parse_159 : decode cX7_parse 159 = .ok (.bipush 13, 2) := by decide +kernel
theorem dX7_parse_161 : decode cX7_parse 161 = .ok (.iconst 0, 1) := by decide +kernel
theorem dX7_parse_162 : decode cX7_parse 162 = .ok (.iastore, 1) := by decide +kernel
theorem dX7_parse_163 : decode cX7_parse 163 = .ok (.aload_n 0, 1) := by decide +kernel
theorem dX7_parse_164 : decode cX7_parse 164 = .ok (.getfield 7, 3) := by decide +kernel
theorem dX7_parse_167 : decode cX7_parse 167 = .ok (.bipush 14, 2) := by decide +kernel
theorem dX7_parse_169 : decode cX7_parse 169 = .ok (.iconst 0, 1) := by decide +kernel
theorem dX7_parse_170 : decode cX7_parse 170 = .ok (.iastore, 1) := by decide +kernel
theorem dX7_parse_171 : decode cX7_parse 171 = .ok (.aload_n 0, 1) := by decide +kernel
theorem dX7_parse_172 : decode cX7_parse 172 = .ok (.getfield 7, 3) := by decide +kernel
theorem dX7_parse_175 : decode cX7_parse 175 = .ok (.bipush 15, 2) := by decide +kernel
theorem dX7_parse_177 : decode cX7_parse 177 = .ok (.iconst 0, 1) := by decide +kernel
theorem dX7_parse_178 : decode cX7_parse 178 = .ok (.iastore, 1) := by decide +kernel
theorem dX7_parse_179 : decode cX7_parse 179 = .ok (.aload_n 0, 1) := by decide +kernel
theorem dX7_parse_180 : decode cX7_parse 180 = .ok (.getfield 7, 3) := by decide +kernel
theorem dX7_parse_183 : decode cX7_parse 183 = .ok (.iconst 1, 1) := by decide +kernel
theorem dX7_parse_184 : decode cX7_parse 184 = .ok (.iaload, 1) := by decide +kernel
theorem dX7_parse_185 : decode cX7_parse 185 = .ok (.ireturn, 1) := by decide +kernel
theorem dX7_swapsAside_0 : decode cX7_swapsAside 0 = .ok (.iconst 0, 1) := by decide +kernel
theorem dX7_swapsAside_1 : decode cX7_swapsAside 1 = .ok (.istore_n 1, 1) := by decide +kernel
theorem dX7_swapsAside_2 : decode cX7_swapsAside 2 = .ok (.iload_n 1, 1) := by decide +kernel
theorem dX7_swapsAside_3 : decode cX7_swapsAside 3 = .ok (.sipush 366, 3) := by decide +kernel
theorem dX7_swapsAside_6 : decode cX7_swapsAside 6 = .ok (.if_icmp .ge 35, 3) := by decide +kernel
theorem dX7_swapsAside_9 : decode cX7_swapsAside 9 = .ok (.aload_n 0, 1) := by decide +kernel
theorem dX7_swapsAside_10 : decode cX7_swapsAside 10 = .ok (.getfield 7, 3) := by decide +kernel
theorem dX7_swapsAside_13 : decode cX7_swapsAside 13 = .ok (.iload_n 1, 1) := by decide +kernel
theorem dX7_swapsAside_14 : decode cX7_swapsAside 14 = .ok (.iaload, 1) := by decide +kernel
theorem dX7_swapsAside_15 : decode cX7_swapsAside 15 = .ok (.istore_n 2, 1) := by decide +kernel
theorem dX7_swapsAside_16 : decode cX7_swapsAside 16 = .ok (.aload_n 0, 1) := by decide +kernel
theorem dX7_swapsAside_17 : decode cX7_swapsAside 17 = .ok (.getfield 7, 3) := by decide +kernel
theorem dX7_swapsAside_20 : decode cX7_swapsAside 20 = .ok (.iload_n 1, 1) := by decide +kernel
theorem dX7_swapsAside_21 : decode cX7_swapsAside 21 = .ok (.aload_n 0, 1) := by decide +kernel
theorem dX7_swapsAside_22 : decode cX7_swapsAside 22 = .ok (.getfield 16, 3) := by decide +kernel
theorem dX7_swapsAside_25 : decode cX7_swapsAside 25 = .ok (.iload_n 1, 1) := by decide +kernel
theorem dX7_swapsAside_26 : decode cX7_swapsAside 26 = .ok (.iaload, 1) := by decide +kernel
theorem dX7_swapsAside_27 : decode cX7_swapsAside 27 = .ok (.iastore, 1) := by decide +kernel
theorem dX7_swapsAside_28 : decode cX7_swapsAside 28 = .ok (.aload_n 0, 1) := by decide +kernel
theorem dX7_swapsAside_29 : decode cX7_swapsAside 29 = .ok (.getfield 16, 3) := by decide +kernel
theorem dX7_swapsAside_32 : decode cX7_swapsAside 32 = .ok (.iload_n 1, 1) := by decide +kernel
theorem dX7_swapsAside_33 : decode cX7_swapsAside 33 = .ok (.iload_n 2, 1) := by decide +kernel
theorem dX7_swapsAside_34 : decode cX7_swapsAside 34 = .ok (.iastore, 1) := by decide +kernel
theorem dX7_swapsAside_35 : decode cX7_swapsAside 35 = .ok (.iinc 1 1, 3) := by decide +kernel
theorem dX7_swapsAside_38 : decode cX7_swapsAside 38 = .ok (.goto (-36), 3) := by decide +kernel
theorem dX7_swapsAside_41 : decode cX7_swapsAside 41 = .ok (.return_, 1) := by decide +kernel
theorem dX7_mix_0 : decode cX7_mix 0 = .ok (.aload_n 0, 1) := by decide +kernel
theorem dX7_mix_1 : decode cX7_mix 1 = .ok (.ldc2_w 207, 3) := by decide +kernel
theorem dX7_mix_4 : decode cX7_mix 4 = .ok (.aload_n 0, 1) := by decide +kernel
theorem dX7_mix_5 : decode cX7_mix 5 = .ok (.getfield 209, 3) := by decide +kernel
theorem dX7_mix_8 : decode cX7_mix 8 = .ok (.lmul, 1) := by decide +kernel
theorem dX7_mix_9 : decode cX7_mix 9 = .ok (.iload_n 1, 1) := by decide +kernel
theorem dX7_mix_10 : decode cX7_mix 10 = .ok (.i2l, 1) := by decide +kernel
theorem dX7_mix_11 : decode cX7_mix 11 = .ok (.ladd, 1) := by decide +kernel
theorem dX7_mix_12 : decode cX7_mix 12 = .ok (.putfield 209, 3) := by decide +kernel
theorem dX7_mix_15 : decode cX7_mix 15 = .ok (.return_, 1) := by decide +kernel
theorem dX7_digest_0 : decode cX7_digest 0 = .ok (.aload_n 0, 1) := by decide +kernel
theorem dX7_digest_1 : decode cX7_digest 1 = .ok (.iconst 0, 1) := by decide +kernel
theorem dX7_digest_2 : decode cX7_digest 2 = .ok (.putfield 28, 3) := by decide +kernel
theorem dX7_digest_5 : decode cX7_digest 5 = .ok (.aload_n 0, 1) := by decide +kernel
theorem dX7_digest_6 : decode cX7_digest 6 = .ok (.ldc2_w 213, 3) := by decide +kernel
theorem dX7_digest_9 : decode cX7_digest 9 = .ok (.putfield 209, 3) := by decide +kernel
theorem dX7_digest_12 : decode cX7_digest 12 = .ok (.aload_n 0, 1) := by decide +kernel
theorem dX7_digest_13 : decode cX7_digest 13 = .ok (.aload_n 0, 1) := by decide +kernel
theorem dX7_digest_14 : decode cX7_digest 14 = .ok (.getfield 182, 3) := by decide +kernel
theorem dX7_digest_17 : decode cX7_digest 17 = .ok (.invokevirtual 215, 3) := by decide +kernel
theorem dX7_digest_20 : decode cX7_digest 20 = .ok (.iconst 0, 1) := by decide +kernel
theorem dX7_digest_21 : decode cX7_digest 21 = .ok (.istore_n 1, 1) := by decide +kernel
theorem dX7_digest_22 : decode cX7_digest 22 = .ok (.iload_n 1, 1) := by decide +kernel
theorem dX7_digest_23 : decode cX7_digest 23 = .ok (.bipush 12, 2) := by decide +kernel
theorem dX7_digest_25 : decode cX7_digest 25 = .ok (.if_icmp .ge 18, 3) := by decide +kernel
theorem dX7_digest_28 : decode cX7_digest 28 = .ok (.aload_n 0, 1) := by decide +kernel
theorem dX7_digest_29 : decode cX7_digest 29 = .ok (.aload_n 0, 1) := by decide +kernel
theorem dX7_digest_30 : decode cX7_digest 30 = .ok (.iload_n 1, 1) := by decide +kernel
theorem dX7_digest_31 : decode cX7_digest 31 = .ok (.invokevirtual 170, 3) := by decide +kernel
theorem dX7_digest_34 : decode cX7_digest 34 = .ok (.invokevirtual 215, 3) := by decide +kernel
theorem dX7_digest_37 : decode cX7_digest 37 = .ok (.iinc 1 1, 3) := by decide +kernel
theorem dX7_digest_40 : decode cX7_digest 40 = .ok (.goto (-18), 3) := by decide +kernel
theorem dX7_digest_43 : decode cX7_digest 43 = .ok (.aload_n 0, 1) := by decide +kernel
theorem dX7_digest_44 : decode cX7_digest 44 = .ok (.aload_n 0, 1) := by decide +kernel
theorem dX7_digest_45 : decode cX7_digest 45 = .ok (.getfield 7, 3) := by decide +kernel
theorem dX7_digest_48 : decode cX7_digest 48 = .ok (.iconst 0, 1) := by decide +kernel
theorem dX7_digest_49 : decode cX7_digest 49 = .ok (.iaload, 1) := by decide +kernel
theorem dX7_digest_50 : decode cX7_digest 50 = .ok (.invokestatic 50, 3) := by decide +kernel
theorem dX7_digest_53 : decode cX7_digest 53 = .ok (.invokevirtual 215, 3) := by decide +kernel
theorem dX7_digest_56 : decode cX7_digest 56 = .ok (.iconst 0, 1) := by decide +kernel
theorem dX7_digest_57 : decode cX7_digest 57 = .ok (.istore_n 1, 1) := by decide +kernel
theorem dX7_digest_58 : decode cX7_digest 58 = .ok (.iload_n 1, 1) := by decide +kernel
theorem dX7_digest_59 : decode cX7_digest 59 = .ok (.aload_n 0, 1) := by decide +kernel
theorem dX7_digest_60 : decode cX7_digest 60 = .ok (.getfield 7, 3) := by decide +kernel
theorem dX7_digest_63 : decode cX7_digest 63 = .ok (.iconst 1, 1) := by decide +kernel
theorem dX7_digest_64 : decode cX7_digest 64 = .ok (.iaload, 1) := by decide +kernel
theorem dX7_digest_65 : decode cX7_digest 65 = .ok (.if_icmp .ge 80, 3) := by decide +kernel
theorem dX7_digest_68 : decode cX7_digest 68 = .ok (.iconst 0, 1) := by decide +kernel
theorem dX7_digest_69 : decode cX7_digest 69 = .ok (.istore_n 2, 1) := by decide +kernel
theorem dX7_digest_70 : decode cX7_digest 70 = .ok (.iload_n 2, 1) := by decide +kernel
theorem dX7_digest_71 : decode cX7_digest 71 = .ok (.bipush 13, 2) := by decide +kernel
theorem dX7_digest_73 : decode cX7_digest 73 = .ok (.if_icmp .ge 19, 3) := by decide +kernel
theorem dX7_digest_76 : decode cX7_digest 76 = .ok (.aload_n 0, 1) := by decide +kernel
theorem dX7_digest_77 : decode cX7_digest 77 = .ok (.aload_n 0, 1) := by decide +kernel
theorem dX7_digest_78 : decode cX7_digest 78 = .ok (.iload_n 1, 1) := by decide +kernel
theorem dX7_digest_79 : decode cX7_digest 79 = .ok (.iload_n 2, 1) := by decide +kernel
theorem dX7_digest_80 : decode cX7_digest 80 = .ok (.invokevirtual 145, 3) := by decide +kernel
theorem dX7_digest_83 : decode cX7_digest 83 = .ok (.invokevirtual 215, 3) := by decide +kernel
theorem dX7_digest_86 : decode cX7_digest 86 = .ok (.iinc 2 1, 3) := by decide +kernel
theorem dX7_digest_89 : decode cX7_digest 89 = .ok (.goto (-19), 3) := by decide +kernel
theorem dX7_digest_92 : decode cX7_digest 92 = .ok (.iconst 0, 1) := by decide +kernel
theorem dX7_digest_93 : decode cX7_digest 93 = .ok (.istore_n 2, 1) := by decide +kernel
theorem dX7_digest_94 : decode cX7_digest 94 = .ok (.iload_n 2, 1) := by decide +kernel
theorem dX7_digest_95 : decode cX7_digest 95 = .ok (.bipush 10, 2) := by decide +kernel
theorem dX7_digest_97 : decode cX7_digest 97 = .ok (.if_icmp .ge 19, 3) := by decide +kernel
theorem dX7_digest_100 : decode cX7_digest 100 = .ok (.aload_n 0, 1) := by decide +kernel
theorem dX7_digest_101 : decode cX7_digest 101 = .ok (.aload_n 0, 1) := by decide +kernel
theorem dX7_digest_102 : decode cX7_digest 102 = .ok (.iload_n 1, 1) := by decide +kernel
theorem dX7_digest_103 : decode cX7_digest 103 = .ok (.iload_n 2, 1) := by decide +kernel
theorem dX7_digest_104 : decode cX7_digest 104 = .ok (.invokevirtual 164, 3) := by decide +kernel
theorem dX7_digest_107 : decode cX7_digest 107 = .ok (.invokevirtual 215, 3) := by decide +kernel
theorem dX7_digest_110 : decode cX7_digest 110 = .ok (.iinc 2 1, 3) := by decide +kernel
theorem dX7_digest_113 : decode cX7_digest 113 = .ok (.goto (-19), 3) := by decide +kernel
theorem dX7_digest_116 : decode cX7_digest 116 = .ok (.aload_n 0, 1) := by decide +kernel
theorem dX7_digest_117 : decode cX7_digest 117 = .ok (.aload_n 0, 1) := by decide +kernel
theorem dX7_digest_118 : decode cX7_digest 118 = .ok (.iload_n 1, 1) := by decide +kernel
theorem dX7_digest_119 : decode cX7_digest 119 = .ok (.aload_n 0, 1) := by decide +kernel
theorem dX7_digest_120 : decode cX7_digest 120 = .ok (.getfield 7, 3) := by decide +kernel
theorem dX7_digest_123 : decode cX7_digest 123 = .ok (.iconst 0, 1) := by decide +kernel
theorem dX7_digest_124 : decode cX7_digest 124 = .ok (.iaload, 1) := by decide +kernel
theorem dX7_digest_125 : decode cX7_digest 125 = .ok (.invokevirtual 160, 3) := by decide +kernel
theorem dX7_digest_128 : decode cX7_digest 128 = .ok (.ifCond .eq 7, 3) := by decide +kernel
theorem dX7_digest_131 : decode cX7_digest 131 = .ok (.iconst 1, 1) := by decide +kernel
theorem dX7_digest_132 : decode cX7_digest 132 = .ok (.goto 4, 3) := by decide +kernel
theorem dX7_digest_135 : decode cX7_digest 135 = .ok (.iconst 0, 1) := by decide +kernel
theorem dX7_digest_136 : decode cX7_digest 136 = .ok (.invokevirtual 215, 3) := by decide +kernel
theorem dX7_digest_139 : decode cX7_digest 139 = .ok (.iinc 1 1, 3) := by decide +kernel
theorem dX7_digest_142 : decode cX7_digest 142 = .ok (.goto (-84), 3) := by decide +kernel
theorem dX7_digest_145 : decode cX7_digest 145 = .ok (.aload_n 0, 1) := by decide +kernel
theorem dX7_digest_146 : decode cX7_digest 146 = .ok (.aload_n 0, 1) := by decide +kernel
theorem dX7_digest_147 : decode cX7_digest 147 = .ok (.invokevirtual 173, 3) := by decide +kernel
theorem dX7_digest_150 : decode cX7_digest 150 = .ok (.invokevirtual 215, 3) := by decide +kernel
theorem dX7_digest_153 : decode cX7_digest 153 = .ok (.aload_n 0, 1) := by decide +kernel
theorem dX7_digest_154 : decode cX7_digest 154 = .ok (.aload_n 0, 1) := by decide +kernel
theorem dX7_digest_155 : decode cX7_digest 155 = .ok (.getfield 32, 3) := by decide +kernel
theorem dX7_digest_158 : decode cX7_digest 158 = .ok (.invokevirtual 215, 3) := by decide +kernel
theorem dX7_digest_161 : decode cX7_digest 161 = .ok (.aload_n 0, 1) := by decide +kernel
theorem dX7_digest_162 : decode cX7_digest 162 = .ok (.getfield 209, 3) := by decide +kernel
theorem dX7_digest_165 : decode cX7_digest 165 = .ok (.lreturn, 1) := by decide +kernel
