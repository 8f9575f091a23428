theorem dX0_yearOf_0 : decode cX0_yearOf 0 = .ok (.iload_n 0, 1) := by decide +kernel
theorem dX0_yearOf_1 : decode cX0_yearOf 1 = .ok (.sipush 1461, 3) := by decide +kernel
theorem dX0_yearOf_4 : decode cX0_yearOf 4 = .ok (.irem, 1) := by decide +kernel
theorem dX0_yearOf_5 : decode cX0_yearOf 5 = .ok (.istore_n 1, 1) := by decide +kernel
theorem dX0_yearOf_6 : decode cX0_yearOf 6 = .ok (.iload_n 1, 1) := by decide +kernel
theorem dX0_yearOf_7 : decode cX0_yearOf 7 = .ok (.sipush 366, 3) := by decide +kernel
theorem dX0_yearOf_10 : decode cX0_yearOf 10 = .ok (.if_icmp .ge 7, 3) := by decide +kernel
theorem dX0_yearOf_13 : decode cX0_yearOf 13 = .ok (.iconst 0, 1) := by decide +kernel
theorem dX0_yearOf_14 : decode cX0_yearOf 14 = .ok (.goto 14, 3) := by decide +kernel
theorem dX0_yearOf_17 : decode cX0_yearOf 17 = .ok (.iconst 1, 1) := by decide +kernel
theorem dX0_yearOf_18 : decode cX0_yearOf 18 = .ok (.iload_n 1, 1) := by decide +kernel
theorem dX0_yearOf_19 : decode cX0_yearOf 19 = .ok (.sipush 366, 3) := by decide +kernel
theorem dX0_yearOf_22 : decode cX0_yearOf 22 = .ok (.isub, 1) := by decide +kernel
theorem dX0_yearOf_23 : decode cX0_yearOf 23 = .ok (.sipush 365, 3) := by decide +kernel
theorem dX0_yearOf_26 : decode cX0_yearOf 26 = .ok (.idiv, 1) := by decide +kernel
theorem dX0_yearOf_27 : decode cX0_yearOf 27 = .ok (.iadd, 1) := by decide +kernel
theorem dX0_yearOf_28 : decode cX0_yearOf 28 = .ok (.istore_n 2, 1) := by decide +kernel
theorem dX0_yearOf_29 : decode cX0_yearOf 29 = .ok (.iload_n 0, 1) := by decide +kernel
theorem dX0_yearOf_30 : decode cX0_yearOf 30 = .ok (.sipush 1461, 3) := by decide +kernel
theorem dX0_yearOf_33 : decode cX0_yearOf 33 = .ok (.idiv, 1) := by decide +kernel
theorem dX0_yearOf_34 : decode cX0_yearOf 34 = .ok (.iconst 4, 1) := by decide +kernel
theorem dX0_yearOf_35 : decode cX0_yearOf 35 = .ok (.imul, 1) := by decide +kernel
theorem dX0_yearOf_36 : decode cX0_yearOf 36 = .ok (.iload_n 2, 1) := by decide +kernel
theorem dX0_yearOf_37 : decode cX0_yearOf 37 = .ok (.iadd, 1) := by decide +kernel
theorem dX0_yearOf_38 : decode cX0_yearOf 38 = .ok (.ireturn, 1) := by decide +kernel
theorem dX0_firstDayOf_0 : decode cX0_firstDayOf 0 = .ok (.sipush 365, 3) := by decide +kernel
theorem dX0_firstDayOf_3 : decode cX0_firstDayOf 3 = .ok (.iload_n 0, 1) := by decide +kernel
theorem dX0_firstDayOf_4 : decode cX0_firstDayOf 4 = .ok (.imul, 1) := by decide +kernel
theorem dX0_firstDayOf_5 : decode cX0_firstDayOf 5 = .ok (.iload_n 0, 1) := by decide +kernel
theorem dX0_firstDayOf_6 : decode cX0_firstDayOf 6 = .ok (.iconst 3, 1) := by decide +kernel
theorem dX0_firstDayOf_7 : decode cX0_firstDayOf 7 = .ok (.iadd, 1) := by decide +kernel
theorem dX0_firstDayOf_8 : decode cX0_firstDayOf 8 = .ok (.iconst 4, 1) := by decide +kernel
theorem dX0_firstDayOf_9 : decode cX0_firstDayOf 9 = .ok (.idiv, 1) := by decide +kernel
theorem dX0_firstDayOf_10 : decode cX0_firstDayOf 10 = .ok (.iadd, 1) := by decide +kernel
theorem dX0_firstDayOf_11 : decode cX0_firstDayOf 11 = .ok (.ireturn, 1) := by decide +kernel
theorem dX0_monthLength_0 : decode cX0_monthLength 0 = .ok (.iload_n 1, 1) := by decide +kernel
theorem dX0_monthLength_1 : decode cX0_monthLength 1 = .ok (.tableswitch 72 2 11 #[55, 72, 69, 72, 69, 72, 72, 69, 72, 69], 55) := by decide +kernel
theorem dX0_monthLength_56 : decode cX0_monthLength 56 = .ok (.iload_n 0, 1) := by decide +kernel
theorem dX0_monthLength_57 : decode cX0_monthLength 57 = .ok (.iconst 4, 1) := by decide +kernel
theorem dX0_monthLength_58 : decode cX0_monthLength 58 = .ok (.irem, 1) := by decide +kernel
theorem dX0_monthLength_59 : decode cX0_monthLength 59 = .ok (.ifCond .ne 8, 3) := by decide +kernel
theorem dX0_monthLength_62 : decode cX0_monthLength 62 = .ok (.bipush 29, 2) := by decide +kernel
theorem dX0_monthLength_64 : decode cX0_monthLength 64 = .ok (.goto 5, 3) := by decide +kernel
theorem dX0_monthLength_67 : decode cX0_monthLength 67 = .ok (.bipush 28, 2) := by decide +kernel
theorem dX0_monthLength_69 : decode cX0_monthLength 69 = .ok (.ireturn, 1) := by decide +kernel
theorem dX0_monthLength_70 : decode cX0_monthLength 70 = .ok (.bipush 30, 2) := by decide +kernel
theorem dX0_monthLength_72 : decode cX0_monthLength 72 = .ok (.ireturn, 1) := by decide +kernel
theorem dX0_monthLength_73 : decode cX0_monthLength 73 = .ok (.bipush 31, 2) := by decide +kernel
theorem dX0_monthLength_75 : decode cX0_monthLength 75 = .ok (.ireturn, 1) := by decide +kernel
theorem dX0_dateOf_0 : decode cX0_dateOf 0 = .ok (.iload_n 0, 1) := by decide +kernel
theorem dX0_dateOf_1 : decode cX0_dateOf 1 = .ok (.invokestatic 9, 3) := by decide +kernel
theorem dX0_dateOf_4 : decode cX0_dateOf 4 = .ok (.istore_n 1, 1) := by decide +kernel
theorem dX0_dateOf_5 : decode cX0_dateOf 5 = .ok (.iload_n 0, 1) := by decide +kernel
theorem dX0_dateOf_6 : decode cX0_dateOf 6 = .ok (.iload_n 1, 1) := by decide +kernel
theorem dX0_dateOf_7 : decode cX0_dateOf 7 = .ok (.invokestatic 13, 3) := by decide +kernel
theorem dX0_dateOf_10 : decode cX0_dateOf 10 = .ok (.isub, 1) := by decide +kernel
theorem dX0_dateOf_11 : decode cX0_dateOf 11 = .ok (.istore_n 2, 1) := by decide +kernel
theorem dX0_dateOf_12 : decode cX0_dateOf 12 = .ok (.iconst 1, 1) := by decide +kernel
theorem dX0_dateOf_13 : decode cX0_dateOf 13 = .ok (.istore_n 3, 1) := by decide +kernel
theorem dX0_dateOf_14 : decode cX0_dateOf 14 = .ok (.iload_n 3, 1) := by decide +kernel
theorem dX0_dateOf_15 : decode cX0_dateOf 15 = .ok (.bipush 12, 2) := by decide +kernel
theorem dX0_dateOf_17 : decode cX0_dateOf 17 = .ok (.if_icmp .ge 26, 3) := by decide +kernel
theorem dX0_dateOf_20 : decode cX0_dateOf 20 = .ok (.iload_n 2, 1) := by decide +kernel
theorem dX0_dateOf_21 : decode cX0_dateOf 21 = .ok (.iload_n 1, 1) := by decide +kernel
theorem dX0_dateOf_22 : decode cX0_dateOf 22 = .ok (.iload_n 3, 1) := by decide +kernel
theorem dX0_dateOf_23 : decode cX0_dateOf 23 = .ok (.invokestatic 16, 3) := by decide +kernel
theorem dX0_dateOf_26 : decode cX0_dateOf 26 = .ok (.if_icmp .lt 17, 3) := by decide +kernel
theorem dX0_dateOf_29 : decode cX0_dateOf 29 = .ok (.iload_n 2, 1) := by decide +kernel
theorem dX0_dateOf_30 : decode cX0_dateOf 30 = .ok (.iload_n 1, 1) := by decide +kernel
theorem dX0_dateOf_31 : decode cX0_dateOf 31 = .ok (.iload_n 3, 1) := by decide +kernel
theorem dX0_dateOf_32 : decode cX0_dateOf 32 = .ok (.invokestatic 16, 3) := by decide +kernel
theorem dX0_dateOf_35 : decode cX0_dateOf 35 = .ok (.isub, 1) := by decide +kernel
theorem dX0_dateOf_36 : decode cX0_dateOf 36 = .ok (.istore_n 2, 1) := by decide +kernel
theorem dX0_dateOf_37 : decode cX0_dateOf 37 = .ok (.iinc 3 1, 3) := by decide +kernel
theorem dX0_dateOf_40 : decode cX0_dateOf 40 = .ok (.goto (-26), 3) := by decide +kernel
theorem dX0_dateOf_43 : decode cX0_dateOf 43 = .ok (.sipush 10000, 3) := by decide +kernel
theorem dX0_dateOf_46 : decode cX0_dateOf 46 = .ok (.iload_n 1, 1) := by decide +kernel
theorem dX0_dateOf_47 : decode cX0_dateOf 47 = .ok (.imul, 1) := by decide +kernel
theorem dX0_dateOf_48 : decode cX0_dateOf 48 = .ok (.bipush 100, 2) := by decide +kernel
theorem dX0_dateOf_50 : decode cX0_dateOf 50 = .ok (.iload_n 3, 1) := by decide +kernel
theorem dX0_dateOf_51 : decode cX0_dateOf 51 = .ok (.imul, 1) := by decide +kernel
theorem dX0_dateOf_52 : decode cX0_dateOf 52 = .ok (.iadd, 1) := by decide +kernel
theorem dX0_dateOf_53 : decode cX0_dateOf 53 = .ok (.iload_n 2, 1) := by decide +kernel
theorem dX0_dateOf_54 : decode cX0_dateOf 54 = .ok (.iadd, 1) := by decide +kernel
theorem dX0_dateOf_55 : decode cX0_dateOf 55 = .ok (.iconst 1, 1) := by decide +kernel
theorem dX0_dateOf_56 : decode cX0_dateOf 56 = .ok (.iadd, 1) := by decide +kernel
theorem dX0_dateOf_57 : decode cX0_dateOf 57 = .ok (.ireturn, 1) := by decide +kernel
theorem dX0_dayOf_0 : decode cX0_dayOf 0 = .ok (.iload_n 0, 1) := by decide +kernel
theorem dX0_dayOf_1 : decode cX0_dayOf 1 = .ok (.invokestatic 13, 3) := by decide +kernel
theorem dX0_dayOf_4 : decode cX0_dayOf 4 = .ok (.iload_n 2, 1) := by decide +kernel
theorem dX0_dayOf_5 : decode cX0_dayOf 5 = .ok (.iadd, 1) := by decide +kernel
theorem dX0_dayOf_6 : decode cX0_dayOf 6 = .ok (.iconst 1, 1) := by decide +kernel
theorem dX0_dayOf_7 : decode cX0_dayOf 7 = .ok (.isub, 1) := by decide +kernel
theorem dX0_dayOf_8 : decode cX0_dayOf 8 = .ok (.istore_n 3, 1) := by decide +kernel
theorem dX0_dayOf_9 : decode cX0_dayOf 9 = .ok (.iconst 1, 1) := by decide +kernel
theorem dX0_dayOf_10 : decode cX0_dayOf 10 = .ok (.istore 4, 2) := by decide +kernel
theorem dX0_dayOf_12 : decode cX0_dayOf 12 = .ok (.iload 4, 2) := by decide +kernel
theorem dX0_dayOf_14 : decode cX0_dayOf 14 = .ok (.iload_n 1, 1) := by decide +kernel
theorem dX0_dayOf_15 : decode cX0_dayOf 15 = .ok (.if_icmp .ge 18, 3) := by decide +kernel
theorem dX0_dayOf_18 : decode cX0_dayOf 18 = .ok (.iload_n 3, 1) := by decide +kernel
theorem dX0_dayOf_19 : decode cX0_dayOf 19 = .ok (.iload_n 0, 1) := by decide +kernel
theorem dX0_dayOf_20 : decode cX0_dayOf 20 = .ok (.iload 4, 2) := by decide +kernel
theorem dX0_dayOf_22 : decode cX0_dayOf 22 = .ok (.invokestatic 16, 3) := by decide +kernel
theorem dX0_dayOf_25 : decode cX0_dayOf 25 = .ok (.iadd, 1) := by decide +kernel
theorem dX0_dayOf_26 : decode cX0_dayOf 26 = .ok (.istore_n 3, 1) := by decide +kernel
theorem dX0_dayOf_27 : decode cX0_dayOf 27 = .ok (.iinc 4 1, 3) := by decide +kernel
theorem dX0_dayOf_30 : decode cX0_dayOf 30 = .ok (.goto (-18), 3) := by decide +kernel
theorem dX0_dayOf_33 : decode cX0_dayOf 33 = .ok (.iload_n 3, 1) := by decide +kernel
theorem dX0_dayOf_34 : decode cX0_dayOf 34 = .ok (.ireturn, 1) := by decide +kernel
theorem dX0_monthsAfter_0 : decode cX0_monthsAfter 0 = .ok (.iload_n 0, 1) := by decide +kernel
theorem dX0_monthsAfter_1 : decode cX0_monthsAfter 1 = .ok (.invokestatic 20, 3) := by decide +kernel
theorem dX0_monthsAfter_4 : decode cX0_monthsAfter 4 = .ok (.istore_n 2, 1) := by decide +kernel
theorem dX0_monthsAfter_5 : decode cX0_monthsAfter 5 = .ok (.iload_n 2, 1) := by decide +kernel
theorem dX0_monthsAfter_6 : decode cX0_monthsAfter 6 = .ok (.bipush 100, 2) := by decide +kernel
theorem dX0_monthsAfter_8 : decode cX0_monthsAfter 8 = .ok (.idiv, 1) := by decide +kernel
theorem dX0_monthsAfter_9 : decode cX0_monthsAfter 9 = .ok (.bipush 100, 2) := by decide +kernel
theorem dX0_monthsAfter_11 : decode cX0_monthsAfter 11 = .ok (.irem, 1) := by decide +kernel
theorem dX0_monthsAfter_12 : decode cX0_monthsAfter 12 = .ok (.iconst 1, 1) := by decide +kernel
theorem dX0_monthsAfter_13 : decode cX0_monthsAfter 13 = .ok (.isub, 1) := by decide +kernel
theorem dX0_monthsAfter_14 : decode cX0_monthsAfter 14 = .ok (.iload_n 1, 1) := by decide +kernel
theorem dX0_monthsAfter_15 : decode cX0_monthsAfter 15 = .ok (.iadd, 1) := by decide +kernel
theorem dX0_monthsAfter_16 : decode cX0_monthsAfter 16 = .ok (.istore_n 3, 1) := by decide +kernel
theorem dX0_monthsAfter_17 : decode cX0_monthsAfter 17 = .ok (.iload_n 2, 1) := by decide +kernel
theorem dX0_monthsAfter_18 : decode cX0_monthsAfter 18 = .ok (.sipush 10000, 3) := by decide +kernel
theorem dX0_monthsAfter_21 : decode cX0_monthsAfter 21 = .ok (.idiv, 1) := by decide +kernel
theorem dX0_monthsAfter_22 : decode cX0_monthsAfter 22 = .ok (.iload_n 3, 1) := by decide +kernel
theorem dX0_monthsAfter_23 : decode cX0_monthsAfter 23 = .ok (.bipush 12, 2) := by decide +kernel
theorem dX0_monthsAfter_25 : decode cX0_monthsAfter 25 = .ok (.idiv, 1) := by decide +kernel
theorem dX0_monthsAfter_26 : decode cX0_monthsAfter 26 = .ok (.iadd, 1) := by decide +kernel
theorem dX0_monthsAfter_27 : decode cX0_monthsAfter 27 = .ok (.istore 4, 2) := by decide +kernel
theorem dX0_monthsAfter_29 : decode cX0_monthsAfter 29 = .ok (.iload_n 3, 1) := by decide +kernel
theorem dX0_monthsAfter_30 : decode cX0_monthsAfter 30 = .ok (.bipush 12, 2) := by decide +kernel
theorem dX0_monthsAfter_32 : decode cX0_monthsAfter 32 = .ok (.irem, 1) := by decide +kernel
theorem dX0_monthsAfter_33 : decode cX0_monthsAfter 33 = .ok (.iconst 1, 1) := by decide +kernel
theorem dX0_monthsAfter_34 : decode cX0_monthsAfter 34 = .ok (.iadd, 1) := by decide +kernel
theorem dX0_monthsAfter_35 : decode cX0_monthsAfter 35 = .ok (.istore 5, 2) := by decide +kernel
theorem dX0_monthsAfter_37 : decode cX0_monthsAfter 37 = .ok (.iload 4, 2) := by decide +kernel
theorem dX0_monthsAfter_39 : decode cX0_monthsAfter 39 = .ok (.iload 5, 2) := by decide +kernel
theorem dX0_monthsAfter_41 : decode cX0_monthsAfter 41 = .ok (.iload_n 2, 1) := by decide +kernel
theorem dX0_monthsAfter_42 : decode cX0_monthsAfter 42 = .ok (.bipush 100, 2) := by decide +kernel
theorem dX0_monthsAfter_44 : decode cX0_monthsAfter 44 = .ok (.irem, 1) := by decide +kernel
theorem dX0_monthsAfter_45 : decode cX0_monthsAfter 45 = .ok (.iload 4, 2) := by decide +kernel
theorem dX0_monthsAfter_47 : decode cX0_monthsAfter 47 = .ok (.iload 5, 2) := by decide +kernel
theorem dX0_monthsAfter_49 : decode cX0_monthsAfter 49 = .ok (.invokestatic 16, 3) := by decide +kernel
theorem dX0_monthsAfter_52 : decode cX0_monthsAfter 52 = .ok (.invokestatic 23, 3) := by decide +kernel
theorem dX0_monthsAfter_55 : decode cX0_monthsAfter 55 = .ok (.invokestatic 28, 3) := by decide +kernel
theorem dX0_monthsAfter_58 : decode cX0_monthsAfter 58 = .ok (.ireturn, 1) := by decide +kernel
theorem dX1_init_0 : decode cX1_init 0 = .ok (.aload_n 0, 1) := by decide +kernel
theorem dX1_init_1 : decode cX1_init 1 = .ok (.invokespecial 1, 3) := by decide +kernel
theorem dX1_init_4 : decode cX1_init 4 = .ok (.aload_n 0, 1) := by decide +kernel
theorem dX1_init_5 : decode cX1_init 5 = .ok (.bipush 100, 2) := by decide +kernel
theorem dX1_init_7 : decode cX1_init 7 = .ok (.putfield 7, 3) := by decide +kernel
theorem dX1_init_10 : decode cX1_init 10 = .ok (.aload_n 0, 1) := by decide +kernel
theorem dX1_init_11 : decode cX1_init 11 = .ok (.bipush 20, 2) := by decide +kernel
theorem dX1_init_13 : decode cX1_init 13 = .ok (.putfield 13, 3) := by decide +kernel
theorem dX1_init_16 : decode cX1_init 16 = .ok (.aload_n 0, 1) := by decide +kernel
theorem dX1_init_17 : decode cX1_init 17 = .ok (.bipush 50, 2) := by decide +kernel
theorem dX1_init_19 : decode cX1_init 19 = .ok (.putfield 16, 3) := by decide +kernel
theorem dX1_init_22 : decode cX1_init 22 = .ok (.aload_n 0, 1) := by decide +kernel
theorem dX1_init_23 : decode cX1_init 23 = .ok (.sipush 300, 3) := by decide +kernel
theorem dX1_init_26 : decode cX1_init 26 = .ok (.putfield 19, 3) := by decide +kernel
theorem dX1_init_29 : decode cX1_init 29 = .ok (.return_, 1) := by decide +kernel
theorem dX1_set_0 : decode cX1_set 0 = .ok (.aload_n 0, 1) := by decide +kernel
theorem dX1_set_1 : decode cX1_set 1 = .ok (.iload_n 1, 1) := by decide +kernel
theorem dX1_set_2 : decode cX1_set 2 = .ok (.putfield 7, 3) := by decide +kernel
theorem dX1_set_5 : decode cX1_set 5 = .ok (.aload_n 0, 1) := by decide +kernel
theorem dX1_set_6 : decode cX1_set 6 = .ok (.iload_n 2, 1) := by decide +kernel
theorem dX1_set_7 : decode cX1_set 7 = .ok (.putfield 13, 3) := by decide +kernel
theorem dX1_set_10 : decode cX1_set 10 = .ok (.aload_n 0, 1) := by decide +kernel
theorem dX1_set_11 : decode cX1_set 11 = .ok (.iload_n 3, 1) := by decide +kernel
theorem dX1_set_12 : decode cX1_set 12 = .ok (.putfield 16, 3) := by decide +kernel
theorem dX1_set_15 : decode cX1_set 15 = .ok (.aload_n 0, 1) := by decide +kernel
theorem dX1_set_16 : decode cX1_set 16 = .ok (.iload 4, 2) := by decide +kernel
theorem dX1_set_18 : decode cX1_set 18 = .ok (.putfield 19, 3) := by decide +kernel
theorem dX1_set_21 : decode cX1_set 21 = .ok (.return_, 1) := by decide +kernel
theorem dX1_copyFrom_0 : decode cX1_copyFrom 0 = .ok (.aload_n 0, 1) := by decide +kernel
theorem dX1_copyFrom_1 : decode cX1_copyFrom 1 = .ok (.aload_n 1, 1) := by decide +kernel
theorem dX1_copyFrom_2 : decode cX1_copyFrom 2 = .ok (.getfield 7, 3) := by decide +kernel
theorem dX1_copyFrom_5 : decode cX1_copyFrom 5 = .ok (.aload_n 1, 1) := by decide +kernel
theorem dX1_copyFrom_6 : decode cX1_copyFrom 6 = .ok (.getfield 13, 3) := by decide +kernel
theorem dX1_copyFrom_9 : decode cX1_copyFrom 9 = .ok (.aload_n 1, 1) := by decide +kernel
theorem dX1_copyFrom_10 : decode cX1_copyFrom 10 = .ok (.getfield 16, 3) := by decide +kernel
theorem dX1_copyFrom_13 : decode cX1_copyFrom 13 = .ok (.aload_n 1, 1) := by decide +kernel
theorem dX1_copyFrom_14 : decode cX1_copyFrom 14 = .ok (.getfield 19, 3) := by decide +kernel
theorem dX1_copyFrom_17 : decode cX1_copyFrom 17 = .ok (.invokevirtual 22, 3) := by decide +kernel
theorem dX1_copyFrom_20 : decode cX1_copyFrom 20 = .ok (.return_, 1) := by decide +kernel
theorem dX1_feeFor_0 : decode cX1_feeFor 0 = .ok (.aload_n 0, 1) := by decide +kernel
theorem dX1_feeFor_1 : decode cX1_feeFor 1 = .ok (.getfield 7, 3) := by decide +kernel
theorem dX1_feeFor_4 : decode cX1_feeFor 4 = .ok (.aload_n 0, 1) := by decide +kernel
theorem dX1_feeFor_5 : decode cX1_feeFor 5 = .ok (.getfield 13, 3) := by decide +kernel
theorem dX1_feeFor_8 : decode cX1_feeFor 8 = .ok (.iload_n 1, 1) := by decide +kernel
theorem dX1_feeFor_9 : decode cX1_feeFor 9 = .ok (.imul, 1) := by decide +kernel
theorem dX1_feeFor_10 : decode cX1_feeFor 10 = .ok (.iadd, 1) := by decide +kernel
theorem dX1_feeFor_11 : decode cX1_feeFor 11 = .ok (.istore_n 3, 1) := by decide +kernel
theorem dX1_feeFor_12 : decode cX1_feeFor 12 = .ok (.iload_n 2, 1) := by decide +kernel
theorem dX1_feeFor_13 : decode cX1_feeFor 13 = .ok (.ifCond .eq 11, 3) := by decide +kernel
theorem dX1_feeFor_16 : decode cX1_feeFor 16 = .ok (.iload_n 3, 1) := by decide +kernel
theorem dX1_feeFor_17 : decode cX1_feeFor 17 = .ok (.iconst 1, 1) := by decide +kernel
theorem dX1_feeFor_18 : decode cX1_feeFor 18 = .ok (.iadd, 1) := by decide +kernel
theorem dX1_feeFor_19 : decode cX1_feeFor 19 = .ok (.iconst 2, 1) := by decide +kernel
theorem dX1_feeFor_20 : decode cX1_feeFor 20 = .ok (.idiv, 1) := by decide +kernel
theorem dX1_feeFor_21 : decode cX1_feeFor 21 = .ok (.goto 4, 3) := by decide +kernel
theorem dX1_feeFor_24 : decode cX1_feeFor 24 = .ok (.iload_n 3, 1) := by decide +kernel
theorem dX1_feeFor_25 : decode cX1_feeFor 25 = .ok (.ireturn, 1) := by decide +kernel
theorem dX1_surchargeOn_0 : decode cX1_surchargeOn 0 = .ok (.aload_n 0, 1) := by decide +kernel
theorem dX1_surchargeOn_1 : decode cX1_surchargeOn 1 = .ok (.getfield 16, 3) := by decide +kernel
theorem dX1_surchargeOn_4 : decode cX1_surchargeOn 4 = .ok (.iload_n 1, 1) := by decide +kernel
theorem dX1_surchargeOn_5 : decode cX1_surchargeOn 5 = .ok (.imul, 1) := by decide +kernel
theorem dX1_surchargeOn_6 : decode cX1_surchargeOn 6 = .ok (.bipush 100, 2) := by decide +kernel
theorem dX1_surchargeOn_8 : decode cX1_surchargeOn 8 = .ok (.idiv, 1) := by decide +kernel
theorem dX1_surchargeOn_9 : decode cX1_surchargeOn 9 = .ok (.ireturn, 1) := by decide +kernel
theorem dX2_init_0 : decode cX2_init 0 = .ok (.aload_n 0, 1) := by decide +kernel
theorem dX2_init_1 : decode cX2_init 1 = .ok (.invokespecial 3, 3) := by decide +kernel
theorem dX2_init_4 : decode cX2_init 4 = .ok (.aload_n 0, 1) := by decide +kernel
theorem dX2_init_5 : decode cX2_init 5 = .ok (.bipush 6, 2) := by decide +kernel
theorem dX2_init_7 : decode cX2_init 7 = .ok (.newarray .int, 2) := by decide +kernel
theorem dX2_init_9 : decode cX2_init 9 = .ok (.putfield 9, 3) := by decide +kernel
theorem dX2_init_12 : decode cX2_init 12 = .ok (.aload_n 0, 1) := by decide +kernel
theorem dX2_init_13 : decode cX2_init 13 = .ok (.iconst 0, 1) := by decide +kernel
theorem dX2_init_14 : decode cX2_init 14 = .ok (.putfield 15, 3) := by decide +kernel
theorem dX2_init_17 : decode cX2_init 17 = .ok (.return_, 1) := by decide +kernel
theorem dX2_canToggle_0 : decode cX2_canToggle 0 = .ok (.aload_n 0, 1) := by decide +kernel
theorem dX2_canToggle_1 : decode cX2_canToggle 1 = .ok (.getfield 15, 3) := by decide +kernel
theorem dX2_canToggle_4 : decode cX2_canToggle 4 = .ok (.aload_n 0, 1) := by decide +kernel
theorem dX2_canToggle_5 : decode cX2_canToggle 5 = .ok (.getfield 9, 3) := by decide +kernel
theorem dX2_canToggle_8 : decode cX2_canToggle 8 = .ok (.arraylength, 1) := by decide +kernel
theorem dX2_canToggle_9 : decode cX2_canToggle 9 = .ok (.if_icmp .lt 12, 3) := by decide +kernel
theorem dX2_canToggle_12 : decode cX2_canToggle 12 = .ok (.aload_n 0, 1) := by decide +kernel
theorem dX2_canToggle_13 : decode cX2_canToggle 13 = .ok (.iload_n 1, 1) := by decide +kernel
theorem dX2_canToggle_14 : decode cX2_canToggle 14 = .ok (.invokevirtual 19, 3) := by decide +kernel
theorem dX2_canToggle_17 : decode cX2_canToggle 17 = .ok (.iconst (-1), 1) := by decide +kernel
theorem dX2_canToggle_18 : decode cX2_canToggle 18 = .ok (.if_icmp .eq 7, 3) := by decide +kernel
theorem dX2_canToggle_21 : decode cX2_canToggle 21 = .ok (.iconst 1, 1) := by decide +kernel
theorem dX2_canToggle_22 : decode cX2_canToggle 22 = .ok (.goto 4, 3) := by decide +kernel
theorem dX2_canToggle_25 : decode cX2_canToggle 25 = .ok (.iconst 0, 1) := by decide +kernel
theorem dX2_canToggle_26 : decode cX2_canToggle 26 = .ok (.ireturn, 1) := by decide +kernel
theorem dX2_toggle_0 : decode cX2_toggle 0 = .ok (.aload_n 0, 1) := by decide +kernel
theorem dX2_toggle_1 : decode cX2_toggle 1 = .ok (.iload_n 1, 1) := by decide +kernel
theorem dX2_toggle_2 : decode cX2_toggle 2 = .ok (.invokevirtual 19, 3) := by decide +kernel
theorem dX2_toggle_5 : decode cX2_toggle 5 = .ok (.istore_n 2, 1) := by decide +kernel
theorem dX2_toggle_6 : decode cX2_toggle 6 = .ok (.iload_n 2, 1) := by decide +kernel
theorem dX2_toggle_7 : decode cX2_toggle 7 = .ok (.iconst (-1), 1) := by decide +kernel
theorem dX2_toggle_8 : decode cX2_toggle 8 = .ok (.if_icmp .eq 11, 3) := by decide +kernel
theorem dX2_toggle_11 : decode cX2_toggle 11 = .ok (.aload_n 0, 1) := by decide +kernel
theorem dX2_toggle_12 : decode cX2_toggle 12 = .ok (.iload_n 2, 1) := by decide +kernel
theorem dX2_toggle_13 : decode cX2_toggle 13 = .ok (.invokevirtual 23, 3) := by decide +kernel
theorem dX2_toggle_16 : decode cX2_toggle 16 = .ok (.goto 42, 3) := by decide +kernel
theorem dX2_toggle_19 : decode cX2_toggle 19 = .ok (.aload_n 0, 1) := by decide +kernel
theorem dX2_toggle_20 : decode cX2_toggle 20 = .ok (.getfield 15, 3) := by decide +kernel
theorem dX2_toggle_23 : decode cX2_toggle 23 = .ok (.ifCond .lt 35, 3) := by decide +kernel
theorem dX2_toggle_26 : decode cX2_toggle 26 = .ok (.aload_n 0, 1) := by decide +kernel
theorem dX2_toggle_27 : decode cX2_toggle 27 = .ok (.getfield 15, 3) := by decide +kernel
theorem dX2_toggle_30 : decode cX2_toggle 30 = .ok (.aload_n 0, 1) := by decide +kernel
theorem dX2_toggle_31 : decode cX2_toggle 31 = .ok (.getfield 9, 3) := by decide +kernel
theorem dX2_toggle_34 : decode cX2_toggle 34 = .ok (.arraylength, 1) := by decide +kernel
theorem dX2_toggle_35 : decode cX2_toggle 35 = .ok (.if_icmp .ge 23, 3) := by decide +kernel
theorem dX2_toggle_38 : decode cX2_toggle 38 = .ok (.aload_n 0, 1) := by decide +kernel
theorem dX2_toggle_39 : decode cX2_toggle 39 = .ok (.getfield 9, 3) := by decide +kernel
theorem dX2_toggle_42 : decode cX2_toggle 42 = .ok (.aload_n 0, 1) := by decide +kernel
theorem dX2_toggle_43 : decode cX2_toggle 43 = .ok (.getfield 15, 3) := by decide +kernel
theorem dX2_toggle_46 : decode cX2_toggle 46 = .ok (.iload_n 1, 1) := by decide +kernel
theorem dX2_toggle_47 : decode cX2_toggle 47 = .ok (.iastore, 1) := by decide +kernel
theorem dX2_toggle_48 : decode cX2_toggle 48 = .ok (.aload_n 0, 1) := by decide +kernel
theorem dX2_toggle_49 : decode cX2_toggle 49 = .ok (.dup, 1) := by decide +kernel
theorem dX2_toggle_50 : decode cX2_toggle 50 = .ok (.getfield 15, 3) := by decide +kernel
theorem dX2_toggle_53 : decode cX2_toggle 53 = .ok (.iconst 1, 1) := by decide +kernel
theorem dX2_toggle_54 : decode cX2_toggle 54 = .ok (.iadd, 1) := by decide +kernel
theorem dX2_toggle_55 : decode cX2_toggle 55 = .ok (.putfield 15, 3) := by decide +kernel
theorem dX2_toggle_58 : decode cX2_toggle 58 = .ok (.return_, 1) := by decide +kernel
theorem dX2_firstWorkingDay_0 : decode cX2_firstWorkingDay 0 = .ok (.iload_n 1, 1) := by decide +kernel
theorem dX2_firstWorkingDay_1 : decode cX2_firstWorkingDay 1 = .ok (.istore_n 2, 1) := by decide +kernel
theorem dX2_firstWorkingDay_2 : decode cX2_firstWorkingDay 2 = .ok (.iconst 0, 1) := by decide +kernel
theorem dX2_firstWorkingDay_3 : decode cX2_firstWorkingDay 3 = .ok (.istore_n 3, 1) := by decide +kernel
theorem dX2_firstWorkingDay_4 : decode cX2_firstWorkingDay 4 = .ok (.iload_n 3, 1) := by decide +kernel
theorem dX2_firstWorkingDay_5 : decode cX2_firstWorkingDay 5 = .ok (.sipush 366, 3) := by decide +kernel
theorem dX2_firstWorkingDay_8 : decode cX2_firstWorkingDay 8 = .ok (.if_icmp .ge 28, 3) := by decide +kernel
theorem dX2_firstWorkingDay_11 : decode cX2_firstWorkingDay 11 = .ok (.iload_n 2, 1) := by decide +kernel
theorem dX2_firstWorkingDay_12 : decode cX2_firstWorkingDay 12 = .ok (.bipush 7, 2) := by decide +kernel
theorem dX2_firstWorkingDay_14 : decode cX2_firstWorkingDay 14 = .ok (.irem, 1) := by decide +kernel
theorem dX2_firstWorkingDay_15 : decode cX2_firstWorkingDay 15 = .ok (.iconst 5, 1) := by decide +kernel
theorem dX2_firstWorkingDay_16 : decode cX2_firstWorkingDay 16 = .ok (.if_icmp .ge 11, 3) := by decide +kernel
theorem dX2_firstWorkingDay_19 : decode cX2_firstWorkingDay 19 = .ok (.aload_n 0, 1) := by decide +kernel
theorem dX2_firstWorkingDay_20 : decode cX2_firstWorkingDay 20 = .ok (.iload_n 2, 1) := by decide +kernel
theorem dX2_firstWorkingDay_21 : decode cX2_firstWorkingDay 21 = .ok (.invokevirtual 27, 3) := by decide +kernel
theorem dX2_firstWorkingDay_24 : decode cX2_firstWorkingDay 24 = .ok (.ifCond .eq 12, 3) := by decide +kernel
theorem dX2_firstWorkingDay_27 : decode cX2_firstWorkingDay 27 = .ok (.iinc 2 1, 3) := by decide +kernel
theorem dX2_firstWorkingDay_30 : decode cX2_firstWorkingDay 30 = .ok (.iinc 3 1, 3) := by decide +kernel
theorem dX2_firstWorkingDay_33 : decode cX2_firstWorkingDay 33 = .ok (.goto (-29), 3) := by decide +kernel
theorem dX2_firstWorkingDay_36 : decode cX2_firstWorkingDay 36 = .ok (.iload_n 2, 1) := by decide +kernel
theorem dX2_firstWorkingDay_37 : decode cX2_firstWorkingDay 37 = .ok (.ireturn, 1) := by decide +kernel
theorem dX2_copyFrom_0 : decode cX2_copyFrom 0 = .ok (.aload_n 1, 1) := by decide +kernel
theorem dX2_copyFrom_1 : decode cX2_copyFrom 1 = .ok (.getfield 9, 3) := by decide +kernel
theorem dX2_copyFrom_4 : decode cX2_copyFrom 4 = .ok (.iconst 0, 1) := by decide +kernel
theorem dX2_copyFrom_5 : decode cX2_copyFrom 5 = .ok (.aload_n 0, 1) := by decide +kernel
theorem dX2_copyFrom_6 : decode cX2_copyFrom 6 = .ok (.getfield 9, 3) := by decide +kernel
theorem dX2_copyFrom_9 : decode cX2_copyFrom 9 = .ok (.iconst 0, 1) := by decide +kernel
theorem dX2_copyFrom_10 : decode cX2_copyFrom 10 = .ok (.bipush 6, 2) := by decide +kernel
theorem dX2_copyFrom_12 : decode cX2_copyFrom 12 = .ok (.invokestatic 31, 3) := by decide +kernel
theorem dX2_copyFrom_15 : decode cX2_copyFrom 15 = .ok (.aload_n 0, 1) := by decide +kernel
theorem dX2_copyFrom_16 : decode cX2_copyFrom 16 = .ok (.aload_n 1, 1) := by decide +kernel
theorem dX2_copyFrom_17 : decode cX2_copyFrom 17 = .ok (.getfield 15, 3) := by decide +kernel
theorem dX2_copyFrom_20 : decode cX2_copyFrom 20 = .ok (.putfield 15, 3) := by decide +kernel
theorem dX2_copyFrom_23 : decode cX2_copyFrom 23 = .ok (.return_, 1) := by decide +kernel
theorem dX2_isHoliday_0 : decode cX2_isHoliday 0 = .ok (.aload_n 0, 1) := by decide +kernel
theorem dX2_isHoliday_1 : decode cX2_isHoliday 1 = .ok (.iload_n 1, 1) := by decide +kernel
theorem dX2_isHoliday_2 : decode cX2_isHoliday 2 = .ok (.invokestatic 37, 3) := by decide +kernel
theorem dX2_isHoliday_5 : decode cX2_isHoliday 5 = .ok (.sipush 10000, 3) := by decide +kernel
theorem dX2_isHoliday_8 : decode cX2_isHoliday 8 = .ok (.irem, 1) := by decide +kernel
theorem dX2_isHoliday_9 : decode cX2_isHoliday 9 = .ok (.invokevirtual 19, 3) := by decide +kernel
theorem dX2_isHoliday_12 : decode cX2_isHoliday 12 = .ok (.iconst (-1), 1) := by decide +kernel
theorem dX2_isHoliday_13 : decode cX2_isHoliday 13 = .ok (.if_icmp .eq 7, 3) := by decide +kernel
theorem dX2_isHoliday_16 : decode cX2_isHoliday 16 = .ok (.iconst 1, 1) := by decide +kernel
theorem dX2_isHoliday_17 : decode cX2_isHoliday 17 = .ok (.goto 4, 3) := by decide +kernel
theorem dX2_isHoliday_20 : decode cX2_isHoliday 20 = .ok (.iconst 0, 1) := by decide +kernel
theorem dX2_isHoliday_21 : decode cX2_isHoliday 21 = .ok (.ireturn, 1) := by decide +kernel
theorem dX2_find_0 : decode cX2_find 0 = .ok (.iconst 0, 1) := by decide +kernel
theorem dX2_find_1 : decode cX2_find 1 = .ok (.istore_n 2, 1) := by decide +kernel
theorem dX2_find_2 : decode cX2_find 2 = .ok (.iload_n 2, 1) := by decide +kernel
theorem dX2_find_3 : decode cX2_find 3 = .ok (.aload_n 0, 1) := by decide +kernel
theorem dX2_find_4 : decode cX2_find 4 = .ok (.getfield 15, 3) := by decide +kernel
theorem dX2_find_7 : decode cX2_find 7 = .ok (.if_icmp .ge 30, 3) := by decide +kernel
theorem dX2_find_10 : decode cX2_find 10 = .ok (.iload_n 2, 1) := by decide +kernel
theorem dX2_find_11 : decode cX2_find 11 = .ok (.aload_n 0, 1) := by decide +kernel
theorem dX2_find_12 : decode cX2_find 12 = .ok (.getfield 9, 3) := by decide +kernel
theorem dX2_find_15 : decode cX2_find 15 = .ok (.arraylength, 1) := by decide +kernel
theorem dX2_find_16 : decode cX2_find 16 = .ok (.if_icmp .ge 21, 3) := by decide +kernel
theorem dX2_find_19 : decode cX2_find 19 = .ok (.aload_n 0, 1) := by decide +kernel
theorem dX2_find_20 : decode cX2_find 20 = .ok (.getfield 9, 3) := by decide +kernel
theorem dX2_find_23 : decode cX2_find 23 = .ok (.iload_n 2, 1) := by decide +kernel
theorem dX2_find_24 : decode cX2_find 24 = .ok (.iaload, 1) := by decide +kernel
theorem dX2_find_25 : decode cX2_find 25 = .ok (.iload_n 1, 1) := by decide +kernel
theorem dX2_find_26 : decode cX2_find 26 = .ok (.if_icmp .ne 5, 3) := by decide +kernel
theorem dX2_find_29 : decode cX2_find 29 = .ok (.iload_n 2, 1) := by decide +kernel
theorem dX2_find_30 : decode cX2_find 30 = .ok (.ireturn, 1) := by decide +kernel
theorem dX2_find_31 : decode cX2_find 31 = .ok (.iinc 2 1, 3) := by decide +kernel
theorem dX2_find_34 : decode cX2_find 34 = .ok (.goto (-32), 3) := by decide +kernel
theorem dX2_find_37 : decode cX2_find 37 = .ok (.iconst (-1), 1) := by decide +kernel
theorem dX2_find_38 : decode cX2_find 38 = .ok (.ireturn, 1) := by decide +kernel
theorem dX2_remove_0 : decode cX2_remove 0 = .ok (.aload_n 0, 1) := by decide +kernel
theorem dX2_remove_1 : decode cX2_remove 1 = .ok (.getfield 15, 3) := by decide +kernel
theorem dX2_remove_4 : decode cX2_remove 4 = .ok (.iconst 1, 1) := by decide +kernel
theorem dX2_remove_5 : decode cX2_remove 5 = .ok (.isub, 1) := by decide +kernel
theorem dX2_remove_6 : decode cX2_remove 6 = .ok (.istore_n 2, 1) := by decide +kernel
theorem dX2_remove_7 : decode cX2_remove 7 = .ok (.iload_n 1, 1) := by decide +kernel
theorem dX2_remove_8 : decode cX2_remove 8 = .ok (.ifCond .lt 34, 3) := by decide +kernel
theorem dX2_remove_11 : decode cX2_remove 11 = .ok (.iload_n 1, 1) := by decide +kernel
theorem dX2_remove_12 : decode cX2_remove 12 = .ok (.iload_n 2, 1) := by decide +kernel
theorem dX2_remove_13 : decode cX2_remove 13 = .ok (.if_icmp .gt 29, 3) := by decide +kernel
theorem dX2_remove_16 : decode cX2_remove 16 = .ok (.iload_n 2, 1) := by decide +kernel
theorem dX2_remove_17 : decode cX2_remove 17 = .ok (.aload_n 0, 1) := by decide +kernel
theorem dX2_remove_18 : decode cX2_remove 18 = .ok (.getfield 9, 3) := by decide +kernel
theorem dX2_remove_21 : decode cX2_remove 21 = .ok (.arraylength, 1) := by decide +kernel
theorem dX2_remove_22 : decode cX2_remove 22 = .ok (.if_icmp .ge 20, 3) := by decide +kernel
theorem dX2_remove_25 : decode cX2_remove 25 = .ok (.aload_n 0, 1) := by decide +kernel
theorem dX2_remove_26 : decode cX2_remove 26 = .ok (.getfield 9, 3) := by decide +kernel
theorem dX2_remove_29 : decode cX2_remove 29 = .ok (.iload_n 1, 1) := by decide +kernel
theorem dX2_remove_30 : decode cX2_remove 30 = .ok (.aload_n 0, 1) := by decide +kernel
theorem dX2_remove_31 : decode cX2_remove 31 = .ok (.getfield 9, 3) := by decide +kernel
theorem dX2_remove_34 : decode cX2_remove 34 = .ok (.iload_n 2, 1) := by decide +kernel
theorem dX2_remove_35 : decode cX2_remove 35 = .ok (.iaload, 1) := by decide +kernel
theorem dX2_remove_36 : decode cX2_remove 36 = .ok (.iastore, 1) := by decide +kernel
theorem dX2_remove_37 : decode cX2_remove 37 = .ok (.aload_n 0, 1) := by decide +kernel
theorem dX2_remove_38 : decode cX2_remove 38 = .ok (.iload_n 2, 1) := by decide +kernel
theorem dX2_remove_39 : decode cX2_remove 39 = .ok (.putfield 15, 3) := by decide +kernel
theorem dX2_remove_42 : decode cX2_remove 42 = .ok (.return_, 1) := by decide +kernel
theorem dX3_init_0 : decode cX3_init 0 = .ok (.aload_n 0, 1) := by decide +kernel
theorem dX3_init_1 : decode cX3_init 1 = .ok (.invokespecial 3, 3) := by decide +kernel
theorem dX3_init_4 : decode cX3_init 4 = .ok (.aload_n 0, 1) := by decide +kernel
theorem dX3_init_5 : decode cX3_init 5 = .ok (.iconst 0, 1) := by decide +kernel
theorem dX3_init_6 : decode cX3_init 6 = .ok (.putfield 9, 3) := by decide +kernel
theorem dX3_init_9 : decode cX3_init 9 = .ok (.aload_n 0, 1) := by decide +kernel
theorem dX3_init_10 : decode cX3_init 10 = .ok (.iconst 0, 1) := by decide +kernel
theorem dX3_init_11 : decode cX3_init 11 = .ok (.putfield 15, 3) := by decide +kernel
theorem dX3_init_14 : decode cX3_init 14 = .ok (.aload_n 0, 1) := by decide +kernel
theorem dX3_init_15 : decode cX3_init 15 = .ok (.iconst 0, 1) := by decide +kernel
theorem dX3_init_16 : decode cX3_init 16 = .ok (.putfield 18, 3) := by decide +kernel
theorem dX3_init_19 : decode cX3_init 19 = .ok (.aload_n 0, 1) := by decide +kernel
theorem dX3_init_20 : decode cX3_init 20 = .ok (.iconst 0, 1) := by decide +kernel
theorem dX3_init_21 : decode cX3_init 21 = .ok (.putfield 22, 3) := by decide +kernel
theorem dX3_init_24 : decode cX3_init 24 = .ok (.aload_n 0, 1) := by decide +kernel
theorem dX3_init_25 : decode cX3_init 25 = .ok (.iconst 0, 1) := by decide +kernel
theorem dX3_init_26 : decode cX3_init 26 = .ok (.putfield 25, 3) := by decide +kernel
theorem dX3_init_29 : decode cX3_init 29 = .ok (.aload_n 0, 1) := by decide +kernel
theorem dX3_init_30 : decode cX3_init 30 = .ok (.iconst 0, 1) := by decide +kernel
theorem dX3_init_31 : decode cX3_init 31 = .ok (.putfield 28, 3) := by decide +kernel
theorem dX3_init_34 : decode cX3_init 34 = .ok (.aload_n 0, 1) := by decide +kernel
theorem dX3_init_35 : decode cX3_init 35 = .ok (.bipush 20, 2) := by decide +kernel
theorem dX3_init_37 : decode cX3_init 37 = .ok (.newarray .int, 2) := by decide +kernel
theorem dX3_init_39 : decode cX3_init 39 = .ok (.putfield 31, 3) := by decide +kernel
theorem dX3_init_42 : decode cX3_init 42 = .ok (.aload_n 0, 1) := by decide +kernel
theorem dX3_init_43 : decode cX3_init 43 = .ok (.bipush 20, 2) := by decide +kernel
theorem dX3_init_45 : decode cX3_init 45 = .ok (.newarray .int, 2) := by decide +kernel
theorem dX3_init_47 : decode cX3_init 47 = .ok (.putfield 35, 3) := by decide +kernel
theorem dX3_init_50 : decode cX3_init 50 = .ok (.aload_n 0, 1) := by decide +kernel
theorem dX3_init_51 : decode cX3_init 51 = .ok (.bipush 20, 2) := by decide +kernel
theorem dX3_init_53 : decode cX3_init 53 = .ok (.newarray .int, 2) := by decide +kernel
theorem dX3_init_55 : decode cX3_init 55 = .ok (.putfield 38, 3) := by decide +kernel
theorem dX3_init_58 : decode cX3_init 58 = .ok (.aload_n 0, 1) := by decide +kernel
theorem dX3_init_59 : decode cX3_init 59 = .ok (.bipush 20, 2) := by decide +kernel
theorem dX3_init_61 : decode cX3_init 61 = .ok (.newarray .int, 2) := by decide +kernel
theorem dX3_init_63 : decode cX3_init 63 = .ok (.putfield 41, 3) := by decide +kernel
theorem dX3_init_66 : decode cX3_init 66 = .ok (.aload_n 0, 1) := by decide +kernel
theorem dX3_init_67 : decode cX3_init 67 = .ok (.bipush 10, 2) := by decide +kernel
theorem dX3_init_69 : decode cX3_init 69 = .ok (.newarray .int, 2) := by decide +kernel
theorem dX3_init_71 : decode cX3_init 71 = .ok (.putfield 44, 3) := by decide +kernel
theorem dX3_init_74 : decode cX3_init 74 = .ok (.return_, 1) := by decide +kernel
theorem dX3_start_0 : decode cX3_start 0 = .ok (.aload_n 0, 1) := by decide +kernel
theorem dX3_start_1 : decode cX3_start 1 = .ok (.iload_n 1, 1) := by decide +kernel
theorem dX3_start_2 : decode cX3_start 2 = .ok (.putfield 9, 3) := by decide +kernel
theorem dX3_start_5 : decode cX3_start 5 = .ok (.aload_n 0, 1) := by decide +kernel
theorem dX3_start_6 : decode cX3_start 6 = .ok (.iload_n 1, 1) := by decide +kernel
theorem dX3_start_7 : decode cX3_start 7 = .ok (.sipush 240, 3) := by decide +kernel
theorem dX3_start_10 : decode cX3_start 10 = .ok (.invokestatic 47, 3) := by decide +kernel
theorem dX3_start_13 : decode cX3_start 13 = .ok (.iconst 1, 1) := by decide +kernel
theorem dX3_start_14 : decode cX3_start 14 = .ok (.isub, 1) := by decide +kernel
theorem dX3_start_15 : decode cX3_start 15 = .ok (.putfield 15, 3) := by decide +kernel
theorem dX3_start_18 : decode cX3_start 18 = .ok (.aload_n 0, 1) := by decide +kernel
theorem dX3_start_19 : decode cX3_start 19 = .ok (.iload_n 2, 1) := by decide +kernel
theorem dX3_start_20 : decode cX3_start 20 = .ok (.putfield 18, 3) := by decide +kernel
theorem dX3_start_23 : decode cX3_start 23 = .ok (.aload_n 0, 1) := by decide +kernel
theorem dX3_start_24 : decode cX3_start 24 = .ok (.iconst 0, 1) := by decide +kernel
theorem dX3_start_25 : decode cX3_start 25 = .ok (.putfield 22, 3) := by decide +kernel
theorem dX3_start_28 : decode cX3_start 28 = .ok (.aload_n 0, 1) := by decide +kernel
theorem dX3_start_29 : decode cX3_start 29 = .ok (.iconst 0, 1) := by decide +kernel
theorem dX3_start_30 : decode cX3_start 30 = .ok (.putfield 25, 3) := by decide +kernel
theorem dX3_start_33 : decode cX3_start 33 = .ok (.aload_n 0, 1) := by decide +kernel
theorem dX3_start_34 : decode cX3_start 34 = .ok (.iconst 0, 1) := by decide +kernel
theorem dX3_start_35 : decode cX3_start 35 = .ok (.putfield 28, 3) := by decide +kernel
theorem dX3_start_38 : decode cX3_start 38 = .ok (.iconst 1, 1) := by decide +kernel
theorem dX3_start_39 : decode cX3_start 39 = .ok (.istore 4, 2) := by decide +kernel
theorem dX3_start_41 : decode cX3_start 41 = .ok (.iload 4, 2) := by decide +kernel
theorem dX3_start_43 : decode cX3_start 43 = .ok (.bipush 19, 2) := by decide +kernel
theorem dX3_start_45 : decode cX3_start 45 = .ok (.if_icmp .gt 72, 3) := by decide +kernel
theorem dX3_start_48 : decode cX3_start 48 = .ok (.iload 4, 2) := by decide +kernel
theorem dX3_start_50 : decode cX3_start 50 = .ok (.aload_n 0, 1) := by decide +kernel
theorem dX3_start_51 : decode cX3_start 51 = .ok (.getfield 31, 3) := by decide +kernel
theorem dX3_start_54 : decode cX3_start 54 = .ok (.arraylength, 1) := by decide +kernel
theorem dX3_start_55 : decode cX3_start 55 = .ok (.if_icmp .ge 62, 3) := by decide +kernel
theorem dX3_start_58 : decode cX3_start 58 = .ok (.iload 4, 2) := by decide +kernel
theorem dX3_start_60 : decode cX3_start 60 = .ok (.aload_n 0, 1) := by decide +kernel
theorem dX3_start_61 : decode cX3_start 61 = .ok (.getfield 35, 3) := by decide +kernel
theorem dX3_start_64 : decode cX3_start 64 = .ok (.arraylength, 1) := by decide +kernel
theorem dX3_start_65 : decode cX3_start 65 = .ok (.if_icmp .ge 52, 3) := by decide +kernel
theorem dX3_start_68 : decode cX3_start 68 = .ok (.aload_n 0, 1) := by decide +kernel
theorem dX3_start_69 : decode cX3_start 69 = .ok (.getfield 31, 3) := by decide +kernel
theorem dX3_start_72 : decode cX3_start 72 = .ok (.iload 4, 2) := by decide +kernel
theorem dX3_start_74 : decode cX3_start 74 = .ok (.aload_n 3, 1) := by decide +kernel
theorem dX3_start_75 : decode cX3_start 75 = .ok (.iload_n 1, 1) := by decide +kernel
theorem dX3_start_76 : decode cX3_start 76 = .ok (.bipush 12, 2) := by decide +kernel
theorem dX3_start_78 : decode cX3_start 78 = .ok (.iload 4, 2) := by decide +kernel
theorem dX3_start_80 : decode cX3_start 80 = .ok (.imul, 1) := by decide +kernel
theorem dX3_start_81 : decode cX3_start 81 = .ok (.invokestatic 47, 3) := by decide +kernel
theorem dX3_start_84 : decode cX3_start 84 = .ok (.invokevirtual 53, 3) := by decide +kernel
theorem dX3_start_87 : decode cX3_start 87 = .ok (.iastore, 1) := by decide +kernel
theorem dX3_start_88 : decode cX3_start 88 = .ok (.aload_n 0, 1) := by decide +kernel
theorem dX3_start_89 : decode cX3_start 89 = .ok (.getfield 35, 3) := by decide +kernel
theorem dX3_start_92 : decode cX3_start 92 = .ok (.iload 4, 2) := by decide +kernel
theorem dX3_start_94 : decode cX3_start 94 = .ok (.aload_n 3, 1) := by decide +kernel
theorem dX3_start_95 : decode cX3_start 95 = .ok (.iload_n 1, 1) := by decide +kernel
theorem dX3_start_96 : decode cX3_start 96 = .ok (.bipush 12, 2) := by decide +kernel
theorem dX3_start_98 : decode cX3_start 98 = .ok (.iload 4, 2) := by decide +kernel
theorem dX3_start_100 : decode cX3_start 100 = .ok (.imul, 1) := by decide +kernel
theorem dX3_start_101 : decode cX3_start 101 = .ok (.bipush 6, 2) := by decide +kernel
theorem dX3_start_103 : decode cX3_start 103 = .ok (.iadd, 1) := by decide +kernel
theorem dX3_start_104 : decode cX3_start 104 = .ok (.invokestatic 47, 3) := by decide +kernel
theorem dX3_start_107 : decode cX3_start 107 = .ok (.invokevirtual 53, 3) := by decide +kernel
theorem dX3_start_110 : decode cX3_start 110 = .ok (.iastore, 1) := by decide +kernel
theorem dX3_start_111 : decode cX3_start 111 = .ok (.iinc 4 1, 3) := by decide +kernel
theorem dX3_start_114 : decode cX3_start 114 = .ok (.goto (-73), 3) := by decide +kernel
theorem dX3_start_117 : decode cX3_start 117 = .ok (.aload_n 0, 1) := by decide +kernel
theorem dX3_start_118 : decode cX3_start 118 = .ok (.getfield 38, 3) := by decide +kernel
theorem dX3_start_121 : decode cX3_start 121 = .ok (.iconst 0, 1) := by decide +kernel
theorem dX3_start_122 : decode cX3_start 122 = .ok (.invokestatic 59, 3) := by decide +kernel
theorem dX3_start_125 : decode cX3_start 125 = .ok (.aload_n 0, 1) := by decide +kernel
theorem dX3_start_126 : decode cX3_start 126 = .ok (.getfield 41, 3) := by decide +kernel
theorem dX3_start_129 : decode cX3_start 129 = .ok (.iconst 0, 1) := by decide +kernel
theorem dX3_start_130 : decode cX3_start 130 = .ok (.invokestatic 59, 3) := by decide +kernel
theorem dX3_start_133 : decode cX3_start 133 = .ok (.aload_n 0, 1) := by decide +kernel
theorem dX3_start_134 : decode cX3_start 134 = .ok (.getfield 44, 3) := by decide +kernel
theorem dX3_start_137 : decode cX3_start 137 = .ok (.iconst (-1), 1) := by decide +kernel
theorem dX3_start_138 : decode cX3_start 138 = .ok (.invokestatic 59, 3) := by decide +kernel
theorem dX3_start_141 : decode cX3_start 141 = .ok (.return_, 1) := by decide +kernel
theorem dX3_copyFrom_0 : decode cX3_copyFrom 0 = .ok (.aload_n 0, 1) := by decide +kernel
theorem dX3_copyFrom_1 : decode cX3_copyFrom 1 = .ok (.aload_n 1, 1) := by decide +kernel
theorem dX3_copyFrom_2 : decode cX3_copyFrom 2 = .ok (.getfield 9, 3) := by decide +kernel
theorem dX3_copyFrom_5 : decode cX3_copyFrom 5 = .ok (.putfield 9, 3) := by decide +kernel
theorem dX3_copyFrom_8 : decode cX3_copyFrom 8 = .ok (.aload_n 0, 1) := by decide +kernel
theorem dX3_copyFrom_9 : decode cX3_copyFrom 9 = .ok (.aload_n 1, 1) := by decide +kernel
theorem dX3_copyFrom_10 : decode cX3_copyFrom 10 = .ok (.getfield 15, 3) := by decide +kernel
theorem dX3_copyFrom_13 : decode cX3_copyFrom 13 = .ok (.putfield 15, 3) := by decide +kernel
theorem dX3_copyFrom_16 : decode cX3_copyFrom 16 = .ok (.aload_n 0, 1) := by decide +kernel
theorem dX3_copyFrom_17 : decode cX3_copyFrom 17 = .ok (.aload_n 1, 1) := by decide +kernel
theorem dX3_copyFrom_18 : decode cX3_copyFrom 18 = .ok (.getfield 18, 3) := by decide +kernel
theorem dX3_copyFrom_21 : decode cX3_copyFrom 21 = .ok (.putfield 18, 3) := by decide +kernel
theorem dX3_copyFrom_24 : decode cX3_copyFrom 24 = .ok (.aload_n 0, 1) := by decide +kernel
theorem dX3_copyFrom_25 : decode cX3_copyFrom 25 = .ok (.aload_n 1, 1) := by decide +kernel
theorem dX3_copyFrom_26 : decode cX3_copyFrom 26 = .ok (.getfield 22, 3) := by decide +kernel
theorem dX3_copyFrom_29 : decode cX3_copyFrom 29 = .ok (.putfield 22, 3) := by decide +kernel
theorem dX3_copyFrom_32 : decode cX3_copyFrom 32 = .ok (.aload_n 0, 1) := by decide +kernel
theorem dX3_copyFrom_33 : decode cX3_copyFrom 33 = .ok (.aload_n 1, 1) := by decide +kernel
theorem dX3_copyFrom_34 : decode cX3_copyFrom 34 = .ok (.getfield 25, 3) := by decide +kernel
theorem dX3_copyFrom_37 : decode cX3_copyFrom 37 = .ok (.putfield 25, 3) := by decide +kernel
theorem dX3_copyFrom_40 : decode cX3_copyFrom 40 = .ok (.aload_n 0, 1) := by decide +kernel
theorem dX3_copyFrom_41 : decode cX3_copyFrom 41 = .ok (.aload_n 1, 1) := by decide +kernel
theorem dX3_copyFrom_42 : decode cX3_copyFrom 42 = .ok (.getfield 28, 3) := by decide +kernel
theorem dX3_copyFrom_45 : decode cX3_copyFrom 45 = .ok (.putfield 28, 3) := by decide +kernel
theorem dX3_copyFrom_48 : decode cX3_copyFrom 48 = .ok (.aload_n 1, 1) := by decide +kernel
theorem dX3_copyFrom_49 : decode cX3_copyFrom 49 = .ok (.getfield 31, 3) := by decide +kernel
theorem dX3_copyFrom_52 : decode cX3_copyFrom 52 = .ok (.iconst 0, 1) := by decide +kernel
theorem dX3_copyFrom_53 : decode cX3_copyFrom 53 = .ok (.aload_n 0, 1) := by decide +kernel
theorem dX3_copyFrom_54 : decode cX3_copyFrom 54 = .ok (.getfield 31, 3) := by decide +kernel
theorem dX3_copyFrom_57 : decode cX3_copyFrom 57 = .ok (.iconst 0, 1) := by decide +kernel
theorem dX3_copyFrom_58 : decode cX3_copyFrom 58 = .ok (.bipush 20, 2) := by decide +kernel
theorem dX3_copyFrom_60 : decode cX3_copyFrom 60 = .ok (.invokestatic 65, 3) := by decide +kernel
theorem dX3_copyFrom_63 : decode cX3_copyFrom 63 = .ok (.aload_n 1, 1) := by decide +kernel
theorem dX3_copyFrom_64 : decode cX3_copyFrom 64 = .ok (.getfield 35, 3) := by decide +kernel
theorem dX3_copyFrom_67 : decode cX3_copyFrom 67 = .ok (.iconst 0, 1) := by decide +kernel
theorem dX3_copyFrom_68 : decode cX3_copyFrom 68 = .ok (.aload_n 0, 1) := by decide +kernel
theorem dX3_copyFrom_69 : decode cX3_copyFrom 69 = .ok (.getfield 35, 3) := by decide +kernel
theorem dX3_copyFrom_72 : decode cX3_copyFrom 72 = .ok (.iconst 0, 1) := by decide +kernel
theorem dX3_copyFrom_73 : decode cX3_copyFrom 73 = .ok (.bipush 20, 2) := by decide +kernel
theorem dX3_copyFrom_75 : decode cX3_copyFrom 75 = .ok (.invokestatic 65, 3) := by decide +kernel
theorem dX3_copyFrom_78 : decode cX3_copyFrom 78 = .ok (.aload_n 1, 1) := by decide +kernel
theorem dX3_copyFrom_79 : decode cX3_copyFrom 79 = .ok (.getfield 38, 3) := by decide +kernel
theorem dX3_copyFrom_82 : decode cX3_copyFrom 82 = .ok (.iconst 0, 1) := by decide +kernel
theorem dX3_copyFrom_83 : decode cX3_copyFrom 83 = .ok (.aload_n 0, 1) := by decide +kernel
theorem dX3_copyFrom_84 : decode cX3_copyFrom 84 = .ok (.getfield 38, 3) := by decide +kernel
theorem dX3_copyFrom_87 : decode cX3_copyFrom 87 = .ok (.iconst 0, 1) := by decide +kernel
theorem dX3_copyFrom_88 : decode cX3_copyFrom 88 = .ok (.bipush 20, 2) := by decide +kernel
theorem dX3_copyFrom_90 : decode cX3_copyFrom 90 = .ok (.invokestatic 65, 3) := by decide +kernel
theorem dX3_copyFrom_93 : decode cX3_copyFrom 93 = .ok (.aload_n 1, 1) := by decide +kernel
theorem dX3_copyFrom_94 : decode cX3_copyFrom 94 = .ok (.getfield 41, 3) := by decide +kernel
theorem dX3_copyFrom_97 : decode cX3_copyFrom 97 = .ok (.iconst 0, 1) := by decide +kernel
theorem dX3_copyFrom_98 : decode cX3_copyFrom 98 = .ok (.aload_n 0, 1) := by decide +kernel
theorem dX3_copyFrom_99 : decode cX3_copyFrom 99 = .ok (.getfield 41, 3) := by decide +kernel
theorem dX3_copyFrom_102 : decode cX3_copyFrom 102 = .ok (.iconst 0, 1) := by decide +kernel
theorem dX3_copyFrom_103 : decode cX3_copyFrom 103 = .ok (.bipush 20, 2) := by decide +kernel
theorem dX3_copyFrom_105 : decode cX3_copyFrom 105 = .ok (.invokestatic 65, 3) := by decide +kernel
theorem dX3_copyFrom_108 : decode cX3_copyFrom 108 = .ok (.aload_n 1, 1) := by decide +kernel
theorem dX3_copyFrom_109 : decode cX3_copyFrom 109 = .ok (.getfield 44, 3) := by decide +kernel
theorem dX3_copyFrom_112 : decode cX3_copyFrom 112 = .ok (.iconst 0, 1) := by decide +kernel
theorem dX3_copyFrom_113 : decode cX3_copyFrom 113 = .ok (.aload_n 0, 1) := by decide +kernel
theorem dX3_copyFrom_114 : decode cX3_copyFrom 114 = .ok (.getfield 44, 3) := by decide +kernel
theorem dX3_copyFrom_117 : decode cX3_copyFrom 117 = .ok (.iconst 0, 1) := by decide +kernel
theorem dX3_copyFrom_118 : decode cX3_copyFrom 118 = .ok (.bipush 10, 2) := by decide +kernel
theorem dX3_copyFrom_120 : decode cX3_copyFrom 120 = .ok (.invokestatic 65, 3) := by decide +kernel
theorem dX3_copyFrom_123 : decode cX3_copyFrom 123 = .ok (.return_, 1) := by decide +kernel
theorem dX3_nextYear_0 : decode cX3_nextYear 0 = .ok (.aload_n 0, 1) := by decide +kernel
theorem dX3_nextYear_1 : decode cX3_nextYear 1 = .ok (.getfield 22, 3) := by decide +kernel
theorem dX3_nextYear_4 : decode cX3_nextYear 4 = .ok (.bipush 19, 2) := by decide +kernel
theorem dX3_nextYear_6 : decode cX3_nextYear 6 = .ok (.if_icmp .ge 12, 3) := by decide +kernel
theorem dX3_nextYear_9 : decode cX3_nextYear 9 = .ok (.aload_n 0, 1) := by decide +kernel
theorem dX3_nextYear_10 : decode cX3_nextYear 10 = .ok (.getfield 22, 3) := by decide +kernel
theorem dX3_nextYear_13 : decode cX3_nextYear 13 = .ok (.iconst 1, 1) := by decide +kernel
theorem dX3_nextYear_14 : decode cX3_nextYear 14 = .ok (.iadd, 1) := by decide +kernel
theorem dX3_nextYear_15 : decode cX3_nextYear 15 = .ok (.goto 4, 3) := by decide +kernel
theorem dX3_nextYear_18 : decode cX3_nextYear 18 = .ok (.iconst (-1), 1) := by decide +kernel
theorem dX3_nextYear_19 : decode cX3_nextYear 19 = .ok (.ireturn, 1) := by decide +kernel
theorem dX3_dueOf_0 : decode cX3_dueOf 0 = .ok (.iload_n 1, 1) := by decide +kernel
theorem dX3_dueOf_1 : decode cX3_dueOf 1 = .ok (.iconst 1, 1) := by decide +kernel
theorem dX3_dueOf_2 : decode cX3_dueOf 2 = .ok (.if_icmp .lt 21, 3) := by decide +kernel
theorem dX3_dueOf_5 : decode cX3_dueOf 5 = .ok (.iload_n 1, 1) := by decide +kernel
theorem dX3_dueOf_6 : decode cX3_dueOf 6 = .ok (.aload_n 0, 1) := by decide +kernel
theorem dX3_dueOf_7 : decode cX3_dueOf 7 = .ok (.getfield 31, 3) := by decide +kernel
theorem dX3_dueOf_10 : decode cX3_dueOf 10 = .ok (.arraylength, 1) := by decide +kernel
theorem dX3_dueOf_11 : decode cX3_dueOf 11 = .ok (.if_icmp .ge 12, 3) := by decide +kernel
theorem dX3_dueOf_14 : decode cX3_dueOf 14 = .ok (.aload_n 0, 1) := by decide +kernel
theorem dX3_dueOf_15 : decode cX3_dueOf 15 = .ok (.getfield 31, 3) := by decide +kernel
theorem dX3_dueOf_18 : decode cX3_dueOf 18 = .ok (.iload_n 1, 1) := by decide +kernel
theorem dX3_dueOf_19 : decode cX3_dueOf 19 = .ok (.iaload, 1) := by decide +kernel
theorem dX3_dueOf_20 : decode cX3_dueOf 20 = .ok (.goto 4, 3) := by decide +kernel
theorem dX3_dueOf_23 : decode cX3_dueOf 23 = .ok (.iconst (-1), 1) := by decide +kernel
theorem dX3_dueOf_24 : decode cX3_dueOf 24 = .ok (.ireturn, 1) := by decide +kernel
theorem dX3_graceOf_0 : decode cX3_graceOf 0 = .ok (.iload_n 1, 1) := by decide +kernel
theorem dX3_graceOf_1 : decode cX3_graceOf 1 = .ok (.iconst 1, 1) := by decide +kernel
theorem dX3_graceOf_2 : decode cX3_graceOf 2 = .ok (.if_icmp .lt 21, 3) := by decide +kernel
theorem dX3_graceOf_5 : decode cX3_graceOf 5 = .ok (.iload_n 1, 1) := by decide +kernel
theorem dX3_graceOf_6 : decode cX3_graceOf 6 = .ok (.aload_n 0, 1) := by decide +kernel
theorem dX3_graceOf_7 : decode cX3_graceOf 7 = .ok (.getfield 35, 3) := by decide +kernel
theorem dX3_graceOf_10 : decode cX3_graceOf 10 = .ok (.arraylength, 1) := by decide +kernel
theorem dX3_graceOf_11 : decode cX3_graceOf 11 = .ok (.if_icmp .ge 12, 3) := by decide +kernel
theorem dX3_graceOf_14 : decode cX3_graceOf 14 = .ok (.aload_n 0, 1) := by decide +kernel
theorem dX3_graceOf_15 : decode cX3_graceOf 15 = .ok (.getfield 35, 3) := by decide +kernel
theorem dX3_graceOf_18 : decode cX3_graceOf 18 = .ok (.iload_n 1, 1) := by decide +kernel
theorem dX3_graceOf_19 : decode cX3_graceOf 19 = .ok (.iaload, 1) := by decide +kernel
theorem dX3_graceOf_20 : decode cX3_graceOf 20 = .ok (.goto 4, 3) := by decide +kernel
theorem dX3_graceOf_23 : decode cX3_graceOf 23 = .ok (.iconst (-1), 1) := by decide +kernel
theorem dX3_graceOf_24 : decode cX3_graceOf 24 = .ok (.ireturn, 1) := by decide +kernel
theorem dX3_paymentOf_0 : decode cX3_paymentOf 0 = .ok (.iload_n 1, 1) := by decide +kernel
theorem dX3_paymentOf_1 : decode cX3_paymentOf 1 = .ok (.iconst 1, 1) := by decide +kernel
theorem dX3_paymentOf_2 : decode cX3_paymentOf 2 = .ok (.if_icmp .lt 21, 3) := by decide +kernel
theorem dX3_paymentOf_5 : decode cX3_paymentOf 5 = .ok (.iload_n 1, 1) := by decide +kernel
theorem dX3_paymentOf_6 : decode cX3_paymentOf 6 = .ok (.aload_n 0, 1) := by decide +kernel
theorem dX3_paymentOf_7 : decode cX3_paymentOf 7 = .ok (.getfield 38, 3) := by decide +kernel
theorem dX3_paymentOf_10 : decode cX3_paymentOf 10 = .ok (.arraylength, 1) := by decide +kernel
theorem dX3_paymentOf_11 : decode cX3_paymentOf 11 = .ok (.if_icmp .ge 12, 3) := by decide +kernel
theorem dX3_paymentOf_14 : decode cX3_paymentOf 14 = .ok (.aload_n 0, 1) := by decide +kernel
theorem dX3_paymentOf_15 : decode cX3_paymentOf 15 = .ok (.getfield 38, 3) := by decide +kernel
theorem dX3_paymentOf_18 : decode cX3_paymentOf 18 = .ok (.iload_n 1, 1) := by decide +kernel
theorem dX3_paymentOf_19 : decode cX3_paymentOf 19 = .ok (.iaload, 1) := by decide +kernel
theorem dX3_paymentOf_20 : decode cX3_paymentOf 20 = .ok (.goto 4, 3) := by decide +kernel
theorem dX3_paymentOf_23 : decode cX3_paymentOf 23 = .ok (.iconst 0, 1) := by decide +kernel
theorem dX3_paymentOf_24 : decode cX3_paymentOf 24 = .ok (.ireturn, 1) := by decide +kernel
theorem dX3_revivalOf_0 : decode cX3_revivalOf 0 = .ok (.iload_n 1, 1) := by decide +kernel
theorem dX3_revivalOf_1 : decode cX3_revivalOf 1 = .ok (.iconst 1, 1) := by decide +kernel
theorem dX3_revivalOf_2 : decode cX3_revivalOf 2 = .ok (.if_icmp .lt 21, 3) := by decide +kernel
theorem dX3_revivalOf_5 : decode cX3_revivalOf 5 = .ok (.iload_n 1, 1) := by decide +kernel
theorem dX3_revivalOf_6 : decode cX3_revivalOf 6 = .ok (.aload_n 0, 1) := by decide +kernel
theorem dX3_revivalOf_7 : decode cX3_revivalOf 7 = .ok (.getfield 41, 3) := by decide +kernel
theorem dX3_revivalOf_10 : decode cX3_revivalOf 10 = .ok (.arraylength, 1) := by decide +kernel
theorem dX3_revivalOf_11 : decode cX3_revivalOf 11 = .ok (.if_icmp .ge 12, 3) := by decide +kernel
theorem dX3_revivalOf_14 : decode cX3_revivalOf 14 = .ok (.aload_n 0, 1) := by decide +kernel
theorem dX3_revivalOf_15 : decode cX3_revivalOf 15 = .ok (.getfield 41, 3) := by decide +kernel
theorem dX3_revivalOf_18 : decode cX3_revivalOf 18 = .ok (.iload_n 1, 1) := by decide +kernel
theorem dX3_revivalOf_19 : decode cX3_revivalOf 19 = .ok (.iaload, 1) := by decide +kernel
theorem dX3_revivalOf_20 : decode cX3_revivalOf 20 = .ok (.goto 4, 3) := by decide +kernel
theorem dX3_revivalOf_23 : decode cX3_revivalOf 23 = .ok (.iconst 0, 1) := by decide +kernel
theorem dX3_revivalOf_24 : decode cX3_revivalOf 24 = .ok (.ireturn, 1) := by decide +kernel
theorem dX3_isLapsed_0 : decode cX3_isLapsed 0 = .ok (.aload_n 0, 1) := by decide +kernel
theorem dX3_isLapsed_1 : decode cX3_isLapsed 1 = .ok (.invokevirtual 71, 3) := by decide +kernel
theorem dX3_isLapsed_4 : decode cX3_isLapsed 4 = .ok (.istore_n 2, 1) := by decide +kernel
theorem dX3_isLapsed_5 : decode cX3_isLapsed 5 = .ok (.iload_n 2, 1) := by decide +kernel
theorem dX3_isLapsed_6 : decode cX3_isLapsed 6 = .ok (.iconst (-1), 1) := by decide +kernel
theorem dX3_isLapsed_7 : decode cX3_isLapsed 7 = .ok (.if_icmp .eq 16, 3) := by decide +kernel
theorem dX3_isLapsed_10 : decode cX3_isLapsed 10 = .ok (.iload_n 1, 1) := by decide +kernel
theorem dX3_isLapsed_11 : decode cX3_isLapsed 11 = .ok (.aload_n 0, 1) := by decide +kernel
theorem dX3_isLapsed_12 : decode cX3_isLapsed 12 = .ok (.iload_n 2, 1) := by decide +kernel
theorem dX3_isLapsed_13 : decode cX3_isLapsed 13 = .ok (.invokevirtual 75, 3) := by decide +kernel
theorem dX3_isLapsed_16 : decode cX3_isLapsed 16 = .ok (.if_icmp .le 7, 3) := by decide +kernel
theorem dX3_isLapsed_19 : decode cX3_isLapsed 19 = .ok (.iconst 1, 1) := by decide +kernel
theorem dX3_isLapsed_20 : decode cX3_isLapsed 20 = .ok (.goto 4, 3) := by decide +kernel
theorem dX3_isLapsed_23 : decode cX3_isLapsed 23 = .ok (.iconst 0, 1) := by decide +kernel
theorem dX3_isLapsed_24 : decode cX3_isLapsed 24 = .ok (.ireturn, 1) := by decide +kernel
theorem dX3_takePayment_0 : decode cX3_takePayment 0 = .ok (.aload_n 0, 1) := by decide +kernel
theorem dX3_takePayment_1 : decode cX3_takePayment 1 = .ok (.invokevirtual 71, 3) := by decide +kernel
theorem dX3_takePayment_4 : decode cX3_takePayment 4 = .ok (.istore_n 3, 1) := by decide +kernel
theorem dX3_takePayment_5 : decode cX3_takePayment 5 = .ok (.aload_n 0, 1) := by decide +kernel
theorem dX3_takePayment_6 : decode cX3_takePayment 6 = .ok (.dup, 1) := by decide +kernel
theorem dX3_takePayment_7 : decode cX3_takePayment 7 = .ok (.getfield 25, 3) := by decide +kernel
theorem dX3_takePayment_10 : decode cX3_takePayment 10 = .ok (.iload_n 1, 1) := by decide +kernel
theorem dX3_takePayment_11 : decode cX3_takePayment 11 = .ok (.iadd, 1) := by decide +kernel
theorem dX3_takePayment_12 : decode cX3_takePayment 12 = .ok (.putfield 25, 3) := by decide +kernel
theorem dX3_takePayment_15 : decode cX3_takePayment 15 = .ok (.iload_n 3, 1) := by decide +kernel
theorem dX3_takePayment_16 : decode cX3_takePayment 16 = .ok (.iconst 1, 1) := by decide +kernel
theorem dX3_takePayment_17 : decode cX3_takePayment 17 = .ok (.if_icmp .lt 24, 3) := by decide +kernel
theorem dX3_takePayment_20 : decode cX3_takePayment 20 = .ok (.iload_n 3, 1) := by decide +kernel
theorem dX3_takePayment_21 : decode cX3_takePayment 21 = .ok (.aload_n 0, 1) := by decide +kernel
theorem dX3_takePayment_22 : decode cX3_takePayment 22 = .ok (.getfield 38, 3) := by decide +kernel
theorem dX3_takePayment_25 : decode cX3_takePayment 25 = .ok (.arraylength, 1) := by decide +kernel
theorem dX3_takePayment_26 : decode cX3_takePayment 26 = .ok (.if_icmp .ge 15, 3) := by decide +kernel
theorem dX3_takePayment_29 : decode cX3_takePayment 29 = .ok (.aload_n 0, 1) := by decide +kernel
theorem dX3_takePayment_30 : decode cX3_takePayment 30 = .ok (.getfield 38, 3) := by decide +kernel
theorem dX3_takePayment_33 : decode cX3_takePayment 33 = .ok (.iload_n 3, 1) := by decide +kernel
theorem dX3_takePayment_34 : decode cX3_takePayment 34 = .ok (.iload_n 2, 1) := by decide +kernel
theorem dX3_takePayment_35 : decode cX3_takePayment 35 = .ok (.iastore, 1) := by decide +kernel
theorem dX3_takePayment_36 : decode cX3_takePayment 36 = .ok (.aload_n 0, 1) := by decide +kernel
theorem dX3_takePayment_37 : decode cX3_takePayment 37 = .ok (.iload_n 3, 1) := by decide +kernel
theorem dX3_takePayment_38 : decode cX3_takePayment 38 = .ok (.putfield 22, 3) := by decide +kernel
theorem dX3_takePayment_41 : decode cX3_takePayment 41 = .ok (.return_, 1) := by decide +kernel
theorem dX3_takeRevival_0 : decode cX3_takeRevival 0 = .ok (.aload_n 0, 1) := by decide +kernel
theorem dX3_takeRevival_1 : decode cX3_takeRevival 1 = .ok (.dup, 1) := by decide +kernel
theorem dX3_takeRevival_2 : decode cX3_takeRevival 2 = .ok (.getfield 25, 3) := by decide +kernel
theorem dX3_takeRevival_5 : decode cX3_takeRevival 5 = .ok (.iload_n 2, 1) := by decide +kernel
theorem dX3_takeRevival_6 : decode cX3_takeRevival 6 = .ok (.iadd, 1) := by decide +kernel
theorem dX3_takeRevival_7 : decode cX3_takeRevival 7 = .ok (.putfield 25, 3) := by decide +kernel
theorem dX3_takeRevival_10 : decode cX3_takeRevival 10 = .ok (.iload_n 1, 1) := by decide +kernel
theorem dX3_takeRevival_11 : decode cX3_takeRevival 11 = .ok (.iconst 1, 1) := by decide +kernel
theorem dX3_takeRevival_12 : decode cX3_takeRevival 12 = .ok (.if_icmp .lt 29, 3) := by decide +kernel
theorem dX3_takeRevival_15 : decode cX3_takeRevival 15 = .ok (.iload_n 1, 1) := by decide +kernel
theorem dX3_takeRevival_16 : decode cX3_takeRevival 16 = .ok (.aload_n 0, 1) := by decide +kernel
theorem dX3_takeRevival_17 : decode cX3_takeRevival 17 = .ok (.getfield 41, 3) := by decide +kernel
theorem dX3_takeRevival_20 : decode cX3_takeRevival 20 = .ok (.arraylength, 1) := by decide +kernel
theorem dX3_takeRevival_21 : decode cX3_takeRevival 21 = .ok (.if_icmp .ge 20, 3) := by decide +kernel
theorem dX3_takeRevival_24 : decode cX3_takeRevival 24 = .ok (.aload_n 0, 1) := by decide +kernel
theorem dX3_takeRevival_25 : decode cX3_takeRevival 25 = .ok (.getfield 41, 3) := by decide +kernel
theorem dX3_takeRevival_28 : decode cX3_takeRevival 28 = .ok (.iload_n 1, 1) := by decide +kernel
theorem dX3_takeRevival_29 : decode cX3_takeRevival 29 = .ok (.iload_n 3, 1) := by decide +kernel
theorem dX3_takeRevival_30 : decode cX3_takeRevival 30 = .ok (.iastore, 1) := by decide +kernel
theorem dX3_takeRevival_31 : decode cX3_takeRevival 31 = .ok (.aload_n 0, 1) := by decide +kernel
theorem dX3_takeRevival_32 : decode cX3_takeRevival 32 = .ok (.dup, 1) := by decide +kernel
theorem dX3_takeRevival_33 : decode cX3_takeRevival 33 = .ok (.getfield 28, 3) := by decide +kernel
theorem dX3_takeRevival_36 : decode cX3_takeRevival 36 = .ok (.iconst 1, 1) := by decide +kernel
theorem dX3_takeRevival_37 : decode cX3_takeRevival 37 = .ok (.iadd, 1) := by decide +kernel
theorem dX3_takeRevival_38 : decode cX3_takeRevival 38 = .ok (.putfield 28, 3) := by decide +kernel
theorem dX3_takeRevival_41 : decode cX3_takeRevival 41 = .ok (.return_, 1) := by decide +kernel
theorem dX3_stoodOn_0 : decode cX3_stoodOn 0 = .ok (.iload_n 1, 1) := by decide +kernel
theorem dX3_stoodOn_1 : decode cX3_stoodOn 1 = .ok (.aload_n 0, 1) := by decide +kernel
theorem dX3_stoodOn_2 : decode cX3_stoodOn 2 = .ok (.getfield 9, 3) := by decide +kernel
theorem dX3_stoodOn_5 : decode cX3_stoodOn 5 = .ok (.if_icmp .lt 11, 3) := by decide +kernel
theorem dX3_stoodOn_8 : decode cX3_stoodOn 8 = .ok (.iload_n 1, 1) := by decide +kernel
theorem dX3_stoodOn_9 : decode cX3_stoodOn 9 = .ok (.aload_n 0, 1) := by decide +kernel
theorem dX3_stoodOn_10 : decode cX3_stoodOn 10 = .ok (.getfield 15, 3) := by decide +kernel
theorem dX3_stoodOn_13 : decode cX3_stoodOn 13 = .ok (.if_icmp .le 5, 3) := by decide +kernel
theorem dX3_stoodOn_16 : decode cX3_stoodOn 16 = .ok (.iconst 0, 1) := by decide +kernel
theorem dX3_stoodOn_17 : decode cX3_stoodOn 17 = .ok (.ireturn, 1) := by decide +kernel
theorem dX3_stoodOn_18 : decode cX3_stoodOn 18 = .ok (.aload_n 0, 1) := by decide +kernel
theorem dX3_stoodOn_19 : decode cX3_stoodOn 19 = .ok (.iload_n 2, 1) := by decide +kernel
theorem dX3_stoodOn_20 : decode cX3_stoodOn 20 = .ok (.invokevirtual 78, 3) := by decide +kernel
theorem dX3_stoodOn_23 : decode cX3_stoodOn 23 = .ok (.ifCond .eq 17, 3) := by decide +kernel
theorem dX3_stoodOn_26 : decode cX3_stoodOn 26 = .ok (.iload_n 1, 1) := by decide +kernel
theorem dX3_stoodOn_27 : decode cX3_stoodOn 27 = .ok (.aload_n 0, 1) := by decide +kernel
theorem dX3_stoodOn_28 : decode cX3_stoodOn 28 = .ok (.aload_n 0, 1) := by decide +kernel
theorem dX3_stoodOn_29 : decode cX3_stoodOn 29 = .ok (.invokevirtual 71, 3) := by decide +kernel
theorem dX3_stoodOn_32 : decode cX3_stoodOn 32 = .ok (.invokevirtual 82, 3) := by decide +kernel
theorem dX3_stoodOn_35 : decode cX3_stoodOn 35 = .ok (.if_icmp .le 5, 3) := by decide +kernel
theorem dX3_stoodOn_38 : decode cX3_stoodOn 38 = .ok (.iconst 0, 1) := by decide +kernel
theorem dX3_stoodOn_39 : decode cX3_stoodOn 39 = .ok (.ireturn, 1) := by decide +kernel
theorem dX3_stoodOn_40 : decode cX3_stoodOn 40 = .ok (.aload_n 0, 1) := by decide +kernel
theorem dX3_stoodOn_41 : decode cX3_stoodOn 41 = .ok (.iload_n 1, 1) := by decide +kernel
theorem dX3_stoodOn_42 : decode cX3_stoodOn 42 = .ok (.invokevirtual 85, 3) := by decide +kernel
theorem dX3_stoodOn_45 : decode cX3_stoodOn 45 = .ok (.ifCond .ne 7, 3) := by decide +kernel
theorem dX3_stoodOn_48 : decode cX3_stoodOn 48 = .ok (.iconst 1, 1) := by decide +kernel
theorem dX3_stoodOn_49 : decode cX3_stoodOn 49 = .ok (.goto 4, 3) := by decide +kernel
theorem dX3_stoodOn_52 : decode cX3_stoodOn 52 = .ok (.iconst 0, 1) := by decide +kernel
theorem dX3_stoodOn_53 : decode cX3_stoodOn 53 = .ok (.ireturn, 1) := by decide +kernel
theorem dX3_isInGap_0 : decode cX3_isInGap 0 = .ok (.iconst 1, 1) := by decide +kernel
theorem dX3_isInGap_1 : decode cX3_isInGap 1 = .ok (.istore_n 2, 1) := by decide +kernel
theorem dX3_isInGap_2 : decode cX3_isInGap 2 = .ok (.iload_n 2, 1) := by decide +kernel
theorem dX3_isInGap_3 : decode cX3_isInGap 3 = .ok (.aload_n 0, 1) := by decide +kernel
theorem dX3_isInGap_4 : decode cX3_isInGap 4 = .ok (.getfield 22, 3) := by decide +kernel
theorem dX3_isInGap_7 : decode cX3_isInGap 7 = .ok (.if_icmp .gt 35, 3) := by decide +kernel
theorem dX3_isInGap_10 : decode cX3_isInGap 10 = .ok (.iload_n 2, 1) := by decide +kernel
theorem dX3_isInGap_11 : decode cX3_isInGap 11 = .ok (.bipush 19, 2) := by decide +kernel
theorem dX3_isInGap_13 : decode cX3_isInGap 13 = .ok (.if_icmp .gt 29, 3) := by decide +kernel
theorem dX3_isInGap_16 : decode cX3_isInGap 16 = .ok (.iload_n 1, 1) := by decide +kernel
theorem dX3_isInGap_17 : decode cX3_isInGap 17 = .ok (.aload_n 0, 1) := by decide +kernel
theorem dX3_isInGap_18 : decode cX3_isInGap 18 = .ok (.iload_n 2, 1) := by decide +kernel
theorem dX3_isInGap_19 : decode cX3_isInGap 19 = .ok (.invokevirtual 82, 3) := by decide +kernel
theorem dX3_isInGap_22 : decode cX3_isInGap 22 = .ok (.if_icmp .le 14, 3) := by decide +kernel
theorem dX3_isInGap_25 : decode cX3_isInGap 25 = .ok (.iload_n 1, 1) := by decide +kernel
theorem dX3_isInGap_26 : decode cX3_isInGap 26 = .ok (.aload_n 0, 1) := by decide +kernel
theorem dX3_isInGap_27 : decode cX3_isInGap 27 = .ok (.iload_n 2, 1) := by decide +kernel
theorem dX3_isInGap_28 : decode cX3_isInGap 28 = .ok (.invokevirtual 88, 3) := by decide +kernel
theorem dX3_isInGap_31 : decode cX3_isInGap 31 = .ok (.if_icmp .ge 5, 3) := by decide +kernel
theorem dX3_isInGap_34 : decode cX3_isInGap 34 = .ok (.iconst 1, 1) := by decide +kernel
theorem dX3_isInGap_35 : decode cX3_isInGap 35 = .ok (.ireturn, 1) := by decide +kernel
theorem dX3_isInGap_36 : decode cX3_isInGap 36 = .ok (.iinc 2 1, 3) := by decide +kernel
theorem dX3_isInGap_39 : decode cX3_isInGap 39 = .ok (.goto (-37), 3) := by decide +kernel
theorem dX3_isInGap_42 : decode cX3_isInGap 42 = .ok (.iconst 0, 1) := by decide +kernel
theorem dX3_isInGap_43 : decode cX3_isInGap 43 = .ok (.ireturn, 1) := by decide +kernel
theorem dX3_paidForOn_0 : decode cX3_paidForOn 0 = .ok (.iload_n 1, 1) := by decide +kernel
theorem dX3_paidForOn_1 : decode cX3_paidForOn 1 = .ok (.aload_n 0, 1) := by decide +kernel
theorem dX3_paidForOn_2 : decode cX3_paidForOn 2 = .ok (.getfield 9, 3) := by decide +kernel
theorem dX3_paidForOn_5 : decode cX3_paidForOn 5 = .ok (.if_icmp .lt 11, 3) := by decide +kernel
theorem dX3_paidForOn_8 : decode cX3_paidForOn 8 = .ok (.iload_n 1, 1) := by decide +kernel
theorem dX3_paidForOn_9 : decode cX3_paidForOn 9 = .ok (.aload_n 0, 1) := by decide +kernel
theorem dX3_paidForOn_10 : decode cX3_paidForOn 10 = .ok (.getfield 15, 3) := by decide +kernel
theorem dX3_paidForOn_13 : decode cX3_paidForOn 13 = .ok (.if_icmp .le 5, 3) := by decide +kernel
theorem dX3_paidForOn_16 : decode cX3_paidForOn 16 = .ok (.iconst 0, 1) := by decide +kernel
theorem dX3_paidForOn_17 : decode cX3_paidForOn 17 = .ok (.ireturn, 1) := by decide +kernel
theorem dX3_paidForOn_18 : decode cX3_paidForOn 18 = .ok (.aload_n 0, 1) := by decide +kernel
theorem dX3_paidForOn_19 : decode cX3_paidForOn 19 = .ok (.invokevirtual 71, 3) := by decide +kernel
theorem dX3_paidForOn_22 : decode cX3_paidForOn 22 = .ok (.istore_n 3, 1) := by decide +kernel
theorem dX3_paidForOn_23 : decode cX3_paidForOn 23 = .ok (.iload_n 3, 1) := by decide +kernel
theorem dX3_paidForOn_24 : decode cX3_paidForOn 24 = .ok (.iconst (-1), 1) := by decide +kernel
theorem dX3_paidForOn_25 : decode cX3_paidForOn 25 = .ok (.if_icmp .eq 23, 3) := by decide +kernel
theorem dX3_paidForOn_28 : decode cX3_paidForOn 28 = .ok (.iload_n 2, 1) := by decide +kernel
theorem dX3_paidForOn_29 : decode cX3_paidForOn 29 = .ok (.aload_n 0, 1) := by decide +kernel
theorem dX3_paidForOn_30 : decode cX3_paidForOn 30 = .ok (.iload_n 3, 1) := by decide +kernel
theorem dX3_paidForOn_31 : decode cX3_paidForOn 31 = .ok (.invokevirtual 75, 3) := by decide +kernel
theorem dX3_paidForOn_34 : decode cX3_paidForOn 34 = .ok (.if_icmp .le 14, 3) := by decide +kernel
theorem dX3_paidForOn_37 : decode cX3_paidForOn 37 = .ok (.iload_n 1, 1) := by decide +kernel
theorem dX3_paidForOn_38 : decode cX3_paidForOn 38 = .ok (.aload_n 0, 1) := by decide +kernel
theorem dX3_paidForOn_39 : decode cX3_paidForOn 39 = .ok (.iload_n 3, 1) := by decide +kernel
theorem dX3_paidForOn_40 : decode cX3_paidForOn 40 = .ok (.invokevirtual 82, 3) := by decide +kernel
theorem dX3_paidForOn_43 : decode cX3_paidForOn 43 = .ok (.if_icmp .le 5, 3) := by decide +kernel
theorem dX3_paidForOn_46 : decode cX3_paidForOn 46 = .ok (.iconst 0, 1) := by decide +kernel
theorem dX3_paidForOn_47 : decode cX3_paidForOn 47 = .ok (.ireturn, 1) := by decide +kernel
theorem dX3_paidForOn_48 : decode cX3_paidForOn 48 = .ok (.iconst 1, 1) := by decide +kernel
theorem dX3_paidForOn_49 : decode cX3_paidForOn 49 = .ok (.istore 4, 2) := by decide +kernel
theorem dX3_paidForOn_51 : decode cX3_paidForOn 51 = .ok (.iload 4, 2) := by decide +kernel
theorem dX3_paidForOn_53 : decode cX3_paidForOn 53 = .ok (.aload_n 0, 1) := by decide +kernel
theorem dX3_paidForOn_54 : decode cX3_paidForOn 54 = .ok (.getfield 22, 3) := by decide +kernel
theorem dX3_paidForOn_57 : decode cX3_paidForOn 57 = .ok (.if_icmp .gt 53, 3) := by decide +kernel
theorem dX3_paidForOn_60 : decode cX3_paidForOn 60 = .ok (.iload 4, 2) := by decide +kernel
theorem dX3_paidForOn_62 : decode cX3_paidForOn 62 = .ok (.bipush 19, 2) := by decide +kernel
theorem dX3_paidForOn_64 : decode cX3_paidForOn 64 = .ok (.if_icmp .gt 46, 3) := by decide +kernel
theorem dX3_paidForOn_67 : decode cX3_paidForOn 67 = .ok (.aload_n 0, 1) := by decide +kernel
theorem dX3_paidForOn_68 : decode cX3_paidForOn 68 = .ok (.iload 4, 2) := by decide +kernel
theorem dX3_paidForOn_70 : decode cX3_paidForOn 70 = .ok (.invokevirtual 91, 3) := by decide +kernel
theorem dX3_paidForOn_73 : decode cX3_paidForOn 73 = .ok (.istore 5, 2) := by decide +kernel
theorem dX3_paidForOn_75 : decode cX3_paidForOn 75 = .ok (.iload 5, 2) := by decide +kernel
theorem dX3_paidForOn_77 : decode cX3_paidForOn 77 = .ok (.aload_n 0, 1) := by decide +kernel
theorem dX3_paidForOn_78 : decode cX3_paidForOn 78 = .ok (.iload 4, 2) := by decide +kernel
theorem dX3_paidForOn_80 : decode cX3_paidForOn 80 = .ok (.invokevirtual 75, 3) := by decide +kernel
theorem dX3_paidForOn_83 : decode cX3_paidForOn 83 = .ok (.if_icmp .le 21, 3) := by decide +kernel
theorem dX3_paidForOn_86 : decode cX3_paidForOn 86 = .ok (.iload_n 1, 1) := by decide +kernel
theorem dX3_paidForOn_87 : decode cX3_paidForOn 87 = .ok (.aload_n 0, 1) := by decide +kernel
theorem dX3_paidForOn_88 : decode cX3_paidForOn 88 = .ok (.iload 4, 2) := by decide +kernel
theorem dX3_paidForOn_90 : decode cX3_paidForOn 90 = .ok (.invokevirtual 82, 3) := by decide +kernel
theorem dX3_paidForOn_93 : decode cX3_paidForOn 93 = .ok (.if_icmp .le 11, 3) := by decide +kernel
theorem dX3_paidForOn_96 : decode cX3_paidForOn 96 = .ok (.iload_n 1, 1) := by decide +kernel
theorem dX3_paidForOn_97 : decode cX3_paidForOn 97 = .ok (.iload 5, 2) := by decide +kernel
theorem dX3_paidForOn_99 : decode cX3_paidForOn 99 = .ok (.if_icmp .ge 5, 3) := by decide +kernel
theorem dX3_paidForOn_102 : decode cX3_paidForOn 102 = .ok (.iconst 0, 1) := by decide +kernel
theorem dX3_paidForOn_103 : decode cX3_paidForOn 103 = .ok (.ireturn, 1) := by decide +kernel
theorem dX3_paidForOn_104 : decode cX3_paidForOn 104 = .ok (.iinc 4 1, 3) := by decide +kernel
theorem dX3_paidForOn_107 : decode cX3_paidForOn 107 = .ok (.goto (-56), 3) := by decide +kernel
theorem dX3_paidForOn_110 : decode cX3_paidForOn 110 = .ok (.iconst 1, 1) := by decide +kernel
theorem dX3_paidForOn_111 : decode cX3_paidForOn 111 = .ok (.ireturn, 1) := by decide +kernel
theorem dX3_daysLived_0 : decode cX3_daysLived 0 = .ok (.iload_n 1, 1) := by decide +kernel
theorem dX3_daysLived_1 : decode cX3_daysLived 1 = .ok (.aload_n 0, 1) := by decide +kernel
theorem dX3_daysLived_2 : decode cX3_daysLived 2 = .ok (.getfield 15, 3) := by decide +kernel
theorem dX3_daysLived_5 : decode cX3_daysLived 5 = .ok (.invokestatic 94, 3) := by decide +kernel
theorem dX3_daysLived_8 : decode cX3_daysLived 8 = .ok (.aload_n 0, 1) := by decide +kernel
theorem dX3_daysLived_9 : decode cX3_daysLived 9 = .ok (.getfield 9, 3) := by decide +kernel
theorem dX3_daysLived_12 : decode cX3_daysLived 12 = .ok (.isub, 1) := by decide +kernel
theorem dX3_daysLived_13 : decode cX3_daysLived 13 = .ok (.iconst 1, 1) := by decide +kernel
theorem dX3_daysLived_14 : decode cX3_daysLived 14 = .ok (.iadd, 1) := by decide +kernel
theorem dX3_daysLived_15 : decode cX3_daysLived 15 = .ok (.ireturn, 1) := by decide +kernel
theorem dX3_daysStood_0 : decode cX3_daysStood 0 = .ok (.iconst 0, 1) := by decide +kernel
theorem dX3_daysStood_1 : decode cX3_daysStood 1 = .ok (.istore_n 2, 1) := by decide +kernel
theorem dX3_daysStood_2 : decode cX3_daysStood 2 = .ok (.aload_n 0, 1) := by decide +kernel
theorem dX3_daysStood_3 : decode cX3_daysStood 3 = .ok (.getfield 9, 3) := by decide +kernel
theorem dX3_daysStood_6 : decode cX3_daysStood 6 = .ok (.istore_n 3, 1) := by decide +kernel
theorem dX3_daysStood_7 : decode cX3_daysStood 7 = .ok (.iconst 1, 1) := by decide +kernel
theorem dX3_daysStood_8 : decode cX3_daysStood 8 = .ok (.istore 4, 2) := by decide +kernel
theorem dX3_daysStood_10 : decode cX3_daysStood 10 = .ok (.iload 4, 2) := by decide +kernel
theorem dX3_daysStood_12 : decode cX3_daysStood 12 = .ok (.aload_n 0, 1) := by decide +kernel
theorem dX3_daysStood_13 : decode cX3_daysStood 13 = .ok (.getfield 22, 3) := by decide +kernel
theorem dX3_daysStood_16 : decode cX3_daysStood 16 = .ok (.if_icmp .gt 49, 3) := by decide +kernel
theorem dX3_daysStood_19 : decode cX3_daysStood 19 = .ok (.iload 4, 2) := by decide +kernel
theorem dX3_daysStood_21 : decode cX3_daysStood 21 = .ok (.bipush 19, 2) := by decide +kernel
theorem dX3_daysStood_23 : decode cX3_daysStood 23 = .ok (.if_icmp .gt 42, 3) := by decide +kernel
theorem dX3_daysStood_26 : decode cX3_daysStood 26 = .ok (.aload_n 0, 1) := by decide +kernel
theorem dX3_daysStood_27 : decode cX3_daysStood 27 = .ok (.iload 4, 2) := by decide +kernel
theorem dX3_daysStood_29 : decode cX3_daysStood 29 = .ok (.invokevirtual 88, 3) := by decide +kernel
theorem dX3_daysStood_32 : decode cX3_daysStood 32 = .ok (.ifCond .le 27, 3) := by decide +kernel
theorem dX3_daysStood_35 : decode cX3_daysStood 35 = .ok (.iload_n 2, 1) := by decide +kernel
theorem dX3_daysStood_36 : decode cX3_daysStood 36 = .ok (.iconst 0, 1) := by decide +kernel
theorem dX3_daysStood_37 : decode cX3_daysStood 37 = .ok (.aload_n 0, 1) := by decide +kernel
theorem dX3_daysStood_38 : decode cX3_daysStood 38 = .ok (.iload 4, 2) := by decide +kernel
theorem dX3_daysStood_40 : decode cX3_daysStood 40 = .ok (.invokevirtual 82, 3) := by decide +kernel
theorem dX3_daysStood_43 : decode cX3_daysStood 43 = .ok (.iconst 1, 1) := by decide +kernel
theorem dX3_daysStood_44 : decode cX3_daysStood 44 = .ok (.iadd, 1) := by decide +kernel
theorem dX3_daysStood_45 : decode cX3_daysStood 45 = .ok (.iload_n 3, 1) := by decide +kernel
theorem dX3_daysStood_46 : decode cX3_daysStood 46 = .ok (.isub, 1) := by decide +kernel
theorem dX3_daysStood_47 : decode cX3_daysStood 47 = .ok (.invokestatic 99, 3) := by decide +kernel
theorem dX3_daysStood_50 : decode cX3_daysStood 50 = .ok (.iadd, 1) := by decide +kernel
theorem dX3_daysStood_51 : decode cX3_daysStood 51 = .ok (.istore_n 2, 1) := by decide +kernel
theorem dX3_daysStood_52 : decode cX3_daysStood 52 = .ok (.aload_n 0, 1) := by decide +kernel
theorem dX3_daysStood_53 : decode cX3_daysStood 53 = .ok (.iload 4, 2) := by decide +kernel
theorem dX3_daysStood_55 : decode cX3_daysStood 55 = .ok (.invokevirtual 88, 3) := by decide +kernel
theorem dX3_daysStood_58 : decode cX3_daysStood 58 = .ok (.istore_n 3, 1) := by decide +kernel
theorem dX3_daysStood_59 : decode cX3_daysStood 59 = .ok (.iinc 4 1, 3) := by decide +kernel
theorem dX3_daysStood_62 : decode cX3_daysStood 62 = .ok (.goto (-52), 3) := by decide +kernel
theorem dX3_daysStood_65 : decode cX3_daysStood 65 = .ok (.iload_n 1, 1) := by decide +kernel
theorem dX3_daysStood_66 : decode cX3_daysStood 66 = .ok (.aload_n 0, 1) := by decide +kernel
theorem dX3_daysStood_67 : decode cX3_daysStood 67 = .ok (.getfield 15, 3) := by decide +kernel
theorem dX3_daysStood_70 : decode cX3_daysStood 70 = .ok (.invokestatic 94, 3) := by decide +kernel
theorem dX3_daysStood_73 : decode cX3_daysStood 73 = .ok (.istore 4, 2) := by decide +kernel
theorem dX3_daysStood_75 : decode cX3_daysStood 75 = .ok (.aload_n 0, 1) := by decide +kernel
theorem dX3_daysStood_76 : decode cX3_daysStood 76 = .ok (.iload_n 1, 1) := by decide +kernel
theorem dX3_daysStood_77 : decode cX3_daysStood 77 = .ok (.invokevirtual 78, 3) := by decide +kernel
theorem dX3_daysStood_80 : decode cX3_daysStood 80 = .ok (.ifCond .eq 18, 3) := by decide +kernel
theorem dX3_daysStood_83 : decode cX3_daysStood 83 = .ok (.iload 4, 2) := by decide +kernel
theorem dX3_daysStood_85 : decode cX3_daysStood 85 = .ok (.aload_n 0, 1) := by decide +kernel
theorem dX3_daysStood_86 : decode cX3_daysStood 86 = .ok (.aload_n 0, 1) := by decide +kernel
theorem dX3_daysStood_87 : decode cX3_daysStood 87 = .ok (.invokevirtual 71, 3) := by decide +kernel
theorem dX3_daysStood_90 : decode cX3_daysStood 90 = .ok (.invokevirtual 82, 3) := by decide +kernel
theorem dX3_daysStood_93 : decode cX3_daysStood 93 = .ok (.invokestatic 94, 3) := by decide +kernel
theorem dX3_daysStood_96 : decode cX3_daysStood 96 = .ok (.istore 4, 2) := by decide +kernel
theorem dX3_daysStood_98 : decode cX3_daysStood 98 = .ok (.iload_n 2, 1) := by decide +kernel
theorem dX3_daysStood_99 : decode cX3_daysStood 99 = .ok (.iconst 0, 1) := by decide +kernel
theorem dX3_daysStood_100 : decode cX3_daysStood 100 = .ok (.iload 4, 2) := by decide +kernel
theorem dX3_daysStood_102 : decode cX3_daysStood 102 = .ok (.iconst 1, 1) := by decide +kernel
theorem dX3_daysStood_103 : decode cX3_daysStood 103 = .ok (.iadd, 1) := by decide +kernel
theorem dX3_daysStood_104 : decode cX3_daysStood 104 = .ok (.iload_n 3, 1) := by decide +kernel
theorem dX3_daysStood_105 : decode cX3_daysStood 105 = .ok (.isub, 1) := by decide +kernel
theorem dX3_daysStood_106 : decode cX3_daysStood 106 = .ok (.invokestatic 99, 3) := by decide +kernel
theorem dX3_daysStood_109 : decode cX3_daysStood 109 = .ok (.iadd, 1) := by decide +kernel
theorem dX3_daysStood_110 : decode cX3_daysStood 110 = .ok (.ireturn, 1) := by decide +kernel
theorem dX3_hasBegun_0 : decode cX3_hasBegun 0 = .ok (.aload_n 0, 1) := by decide +kernel
theorem dX3_hasBegun_1 : decode cX3_hasBegun 1 = .ok (.iload_n 1, 1) := by decide +kernel
theorem dX3_hasBegun_2 : decode cX3_hasBegun 2 = .ok (.invokevirtual 102, 3) := by decide +kernel
theorem dX3_hasBegun_5 : decode cX3_hasBegun 5 = .ok (.ifCond .eq 7, 3) := by decide +kernel
theorem dX3_hasBegun_8 : decode cX3_hasBegun 8 = .ok (.iconst 1, 1) := by decide +kernel
theorem dX3_hasBegun_9 : decode cX3_hasBegun 9 = .ok (.goto 4, 3) := by decide +kernel
theorem dX3_hasBegun_12 : decode cX3_hasBegun 12 = .ok (.iconst 0, 1) := by decide +kernel
theorem dX3_hasBegun_13 : decode cX3_hasBegun 13 = .ok (.ireturn, 1) := by decide +kernel
theorem dX3_begin_0 : decode cX3_begin 0 = .ok (.iload_n 1, 1) := by decide +kernel
theorem dX3_begin_1 : decode cX3_begin 1 = .ok (.ifCond .lt 19, 3) := by decide +kernel
theorem dX3_begin_4 : decode cX3_begin 4 = .ok (.iload_n 1, 1) := by decide +kernel
theorem dX3_begin_5 : decode cX3_begin 5 = .ok (.aload_n 0, 1) := by decide +kernel
theorem dX3_begin_6 : decode cX3_begin 6 = .ok (.getfield 44, 3) := by decide +kernel
theorem dX3_begin_9 : decode cX3_begin 9 = .ok (.arraylength, 1) := by decide +kernel
theorem dX3_begin_10 : decode cX3_begin 10 = .ok (.if_icmp .ge 10, 3) := by decide +kernel
theorem dX3_begin_13 : decode cX3_begin 13 = .ok (.aload_n 0, 1) := by decide +kernel
theorem dX3_begin_14 : decode cX3_begin 14 = .ok (.getfield 44, 3) := by decide +kernel
theorem dX3_begin_17 : decode cX3_begin 17 = .ok (.iload_n 1, 1) := by decide +kernel
theorem dX3_begin_18 : decode cX3_begin 18 = .ok (.iload_n 2, 1) := by decide +kernel
theorem dX3_begin_19 : decode cX3_begin 19 = .ok (.iastore, 1) := by decide +kernel
theorem dX3_begin_20 : decode cX3_begin 20 = .ok (.return_, 1) := by decide +kernel
theorem dX3_standingOfUser_0 : decode cX3_standingOfUser 0 = .ok (.iload_n 1, 1) := by decide +kernel
theorem dX3_standingOfUser_1 : decode cX3_standingOfUser 1 = .ok (.ifCond .lt 22, 3) := by decide +kernel
theorem dX3_standingOfUser_4 : decode cX3_standingOfUser 4 = .ok (.iload_n 1, 1) := by decide +kernel
theorem dX3_standingOfUser_5 : decode cX3_standingOfUser 5 = .ok (.aload_n 0, 1) := by decide +kernel
theorem dX3_standingOfUser_6 : decode cX3_standingOfUser 6 = .ok (.getfield 44, 3) := by decide +kernel
theorem dX3_standingOfUser_9 : decode cX3_standingOfUser 9 = .ok (.arraylength, 1) := by decide +kernel
theorem dX3_standingOfUser_10 : decode cX3_standingOfUser 10 = .ok (.if_icmp .ge 13, 3) := by decide +kernel
theorem dX3_standingOfUser_13 : decode cX3_standingOfUser 13 = .ok (.aload_n 0, 1) := by decide +kernel
theorem dX3_standingOfUser_14 : decode cX3_standingOfUser 14 = .ok (.getfield 44, 3) := by decide +kernel
theorem dX3_standingOfUser_17 : decode cX3_standingOfUser 17 = .ok (.iload_n 1, 1) := by decide +kernel
theorem dX3_standingOfUser_18 : decode cX3_standingOfUser 18 = .ok (.iaload, 1) := by decide +kernel
theorem dX3_standingOfUser_19 : decode cX3_standingOfUser 19 = .ok (.iconst (-1), 1) := by decide +kernel
theorem dX3_standingOfUser_20 : decode cX3_standingOfUser 20 = .ok (.if_icmp .ne 5, 3) := by decide +kernel
theorem dX3_standingOfUser_23 : decode cX3_standingOfUser 23 = .ok (.iconst 0, 1) := by decide +kernel
theorem dX3_standingOfUser_24 : decode cX3_standingOfUser 24 = .ok (.ireturn, 1) := by decide +kernel
theorem dX3_standingOfUser_25 : decode cX3_standingOfUser 25 = .ok (.aload_n 0, 1) := by decide +kernel
theorem dX3_standingOfUser_26 : decode cX3_standingOfUser 26 = .ok (.aload_n 0, 1) := by decide +kernel
theorem dX3_standingOfUser_27 : decode cX3_standingOfUser 27 = .ok (.getfield 44, 3) := by decide +kernel
theorem dX3_standingOfUser_30 : decode cX3_standingOfUser 30 = .ok (.iload_n 1, 1) := by decide +kernel
theorem dX3_standingOfUser_31 : decode cX3_standingOfUser 31 = .ok (.iaload, 1) := by decide +kernel
theorem dX3_standingOfUser_32 : decode cX3_standingOfUser 32 = .ok (.invokevirtual 85, 3) := by decide +kernel
theorem dX3_standingOfUser_35 : decode cX3_standingOfUser 35 = .ok (.ifCond .eq 7, 3) := by decide +kernel
theorem dX3_standingOfUser_38 : decode cX3_standingOfUser 38 = .ok (.iconst 2, 1) := by decide +kernel
theorem dX3_standingOfUser_39 : decode cX3_standingOfUser 39 = .ok (.goto 4, 3) := by decide +kernel
theorem dX3_standingOfUser_42 : decode cX3_standingOfUser 42 = .ok (.iconst 1, 1) := by decide +kernel
theorem dX3_standingOfUser_43 : decode cX3_standingOfUser 43 = .ok (.ireturn, 1) := by decide +kernel
theorem dX3_countUsers_0 : decode cX3_countUsers 0 = .ok (.iconst 0, 1) := by decide +kernel
theorem dX3_countUsers_1 : decode cX3_countUsers 1 = .ok (.istore_n 1, 1) := by decide +kernel
theorem dX3_countUsers_2 : decode cX3_countUsers 2 = .ok (.iconst 0, 1) := by decide +kernel
theorem dX3_countUsers_3 : decode cX3_countUsers 3 = .ok (.istore_n 2, 1) := by decide +kernel
theorem dX3_countUsers_4 : decode cX3_countUsers 4 = .ok (.iload_n 2, 1) := by decide +kernel
theorem dX3_countUsers_5 : decode cX3_countUsers 5 = .ok (.bipush 10, 2) := by decide +kernel
theorem dX3_countUsers_7 : decode cX3_countUsers 7 = .ok (.if_icmp .ge 20, 3) := by decide +kernel
theorem dX3_countUsers_10 : decode cX3_countUsers 10 = .ok (.aload_n 0, 1) := by decide +kernel
theorem dX3_countUsers_11 : decode cX3_countUsers 11 = .ok (.iload_n 2, 1) := by decide +kernel
theorem dX3_countUsers_12 : decode cX3_countUsers 12 = .ok (.invokevirtual 105, 3) := by decide +kernel
theorem dX3_countUsers_15 : decode cX3_countUsers 15 = .ok (.ifCond .eq 6, 3) := by decide +kernel
theorem dX3_countUsers_18 : decode cX3_countUsers 18 = .ok (.iinc 1 1, 3) := by decide +kernel
theorem dX3_countUsers_21 : decode cX3_countUsers 21 = .ok (.iinc 2 1, 3) := by decide +kernel
theorem dX3_countUsers_24 : decode cX3_countUsers 24 = .ok (.goto (-20), 3) := by decide +kernel
theorem dX3_countUsers_27 : decode cX3_countUsers 27 = .ok (.iload_n 1, 1) := by decide +kernel
theorem dX3_countUsers_28 : decode cX3_countUsers 28 = .ok (.ireturn, 1) := by decide +kernel
theorem dX3_countProtected_0 : decode cX3_countProtected 0 = .ok (.iconst 0, 1) := by decide +kernel
theorem dX3_countProtected_1 : decode cX3_countProtected 1 = .ok (.istore_n 1, 1) := by decide +kernel
theorem dX3_countProtected_2 : decode cX3_countProtected 2 = .ok (.iconst 0, 1) := by decide +kernel
theorem dX3_countProtected_3 : decode cX3_countProtected 3 = .ok (.istore_n 2, 1) := by decide +kernel
theorem dX3_countProtected_4 : decode cX3_countProtected 4 = .ok (.iload_n 2, 1) := by decide +kernel
theorem dX3_countProtected_5 : decode cX3_countProtected 5 = .ok (.bipush 10, 2) := by decide +kernel
theorem dX3_countProtected_7 : decode cX3_countProtected 7 = .ok (.if_icmp .ge 21, 3) := by decide +kernel
theorem dX3_countProtected_10 : decode cX3_countProtected 10 = .ok (.aload_n 0, 1) := by decide +kernel
theorem dX3_countProtected_11 : decode cX3_countProtected 11 = .ok (.iload_n 2, 1) := by decide +kernel
theorem dX3_countProtected_12 : decode cX3_countProtected 12 = .ok (.invokevirtual 102, 3) := by decide +kernel
theorem dX3_countProtected_15 : decode cX3_countProtected 15 = .ok (.iconst 2, 1) := by decide +kernel
theorem dX3_countProtected_16 : decode cX3_countProtected 16 = .ok (.if_icmp .ne 6, 3) := by decide +kernel
theorem dX3_countProtected_19 : decode cX3_countProtected 19 = .ok (.iinc 1 1, 3) := by decide +kernel
theorem dX3_countProtected_22 : decode cX3_countProtected 22 = .ok (.iinc 2 1, 3) := by decide +kernel
theorem dX3_countProtected_25 : decode cX3_countProtected 25 = .ok (.goto (-21), 3) := by decide +kernel
theorem dX3_countProtected_28 : decode cX3_countProtected 28 = .ok (.iload_n 1, 1) := by decide +kernel
theorem dX3_countProtected_29 : decode cX3_countProtected 29 = .ok (.ireturn, 1) := by decide +kernel
theorem dX5_init_0 : decode cX5_init 0 = .ok (.aload_n 0, 1) := by decide +kernel
theorem dX5_init_1 : decode cX5_init 1 = .ok (.invokespecial 3, 3) := by decide +kernel
theorem dX5_init_4 : decode cX5_init 4 = .ok (.aload_n 0, 1) := by decide +kernel
theorem dX5_init_5 : decode cX5_init 5 = .ok (.bipush 100, 2) := by decide +kernel
theorem dX5_init_7 : decode cX5_init 7 = .ok (.newarray .byte, 2) := by decide +kernel
theorem dX5_init_9 : decode cX5_init 9 = .ok (.putfield 9, 3) := by decide +kernel
theorem dX5_init_12 : decode cX5_init 12 = .ok (.aload_n 0, 1) := by decide +kernel
theorem dX5_init_13 : decode cX5_init 13 = .ok (.iconst 0, 1) := by decide +kernel
theorem dX5_init_14 : decode cX5_init 14 = .ok (.putfield 15, 3) := by decide +kernel
theorem dX5_init_17 : decode cX5_init 17 = .ok (.aload_n 0, 1) := by decide +kernel
theorem dX5_init_18 : decode cX5_init 18 = .ok (.iconst 0, 1) := by decide +kernel
theorem dX5_init_19 : decode cX5_init 19 = .ok (.putfield 19, 3) := by decide +kernel
theorem dX5_init_22 : decode cX5_init 22 = .ok (.aload_n 0, 1) := by decide +kernel
theorem dX5_init_23 : decode cX5_init 23 = .ok (.iconst (-1), 1) := by decide +kernel
theorem dX5_init_24 : decode cX5_init 24 = .ok (.putfield 22, 3) := by decide +kernel
theorem dX5_init_27 : decode cX5_init 27 = .ok (.aload_n 0, 1) := by decide +kernel
theorem dX5_init_28 : decode cX5_init 28 = .ok (.iconst 0, 1) := by decide +kernel
theorem dX5_init_29 : decode cX5_init 29 = .ok (.putfield 25, 3) := by decide +kernel
theorem dX5_init_32 : decode cX5_init 32 = .ok (.aload_n 0, 1) := by decide +kernel
theorem dX5_init_33 : decode cX5_init 33 = .ok (.bipush 10, 2) := by decide +kernel
theorem dX5_init_35 : decode cX5_init 35 = .ok (.newarray .int, 2) := by decide +kernel
theorem dX5_init_37 : decode cX5_init 37 = .ok (.putfield 28, 3) := by decide +kernel
theorem dX5_init_40 : decode cX5_init 40 = .ok (.aload_n 0, 1) := by decide +kernel
theorem dX5_init_41 : decode cX5_init 41 = .ok (.bipush 10, 2) := by decide +kernel
theorem dX5_init_43 : decode cX5_init 43 = .ok (.newarray .boolean, 2) := by decide +kernel
theorem dX5_init_45 : decode cX5_init 45 = .ok (.putfield 32, 3) := by decide +kernel
theorem dX5_init_48 : decode cX5_init 48 = .ok (.return_, 1) := by decide +kernel
theorem dX5_add_0 : decode cX5_add 0 = .ok (.aload_n 0, 1) := by decide +kernel
theorem dX5_add_1 : decode cX5_add 1 = .ok (.getfield 15, 3) := by decide +kernel
theorem dX5_add_4 : decode cX5_add 4 = .ok (.ifCond .lt 36, 3) := by decide +kernel
theorem dX5_add_7 : decode cX5_add 7 = .ok (.aload_n 0, 1) := by decide +kernel
theorem dX5_add_8 : decode cX5_add 8 = .ok (.getfield 15, 3) := by decide +kernel
theorem dX5_add_11 : decode cX5_add 11 = .ok (.aload_n 0, 1) := by decide +kernel
theorem dX5_add_12 : decode cX5_add 12 = .ok (.getfield 9, 3) := by decide +kernel
theorem dX5_add_15 : decode cX5_add 15 = .ok (.arraylength, 1) := by decide +kernel
theorem dX5_add_16 : decode cX5_add 16 = .ok (.if_icmp .ge 24, 3) := by decide +kernel
theorem dX5_add_19 : decode cX5_add 19 = .ok (.aload_n 0, 1) := by decide +kernel
theorem dX5_add_20 : decode cX5_add 20 = .ok (.getfield 9, 3) := by decide +kernel
theorem dX5_add_23 : decode cX5_add 23 = .ok (.aload_n 0, 1) := by decide +kernel
theorem dX5_add_24 : decode cX5_add 24 = .ok (.getfield 15, 3) := by decide +kernel
theorem dX5_add_27 : decode cX5_add 27 = .ok (.iload_n 1, 1) := by decide +kernel
theorem dX5_add_28 : decode cX5_add 28 = .ok (.i2b, 1) := by decide +kernel
theorem dX5_add_29 : decode cX5_add 29 = .ok (.bastore, 1) := by decide +kernel
theorem dX5_add_30 : decode cX5_add 30 = .ok (.aload_n 0, 1) := by decide +kernel
theorem dX5_add_31 : decode cX5_add 31 = .ok (.dup, 1) := by decide +kernel
theorem dX5_add_32 : decode cX5_add 32 = .ok (.getfield 15, 3) := by decide +kernel
theorem dX5_add_35 : decode cX5_add 35 = .ok (.iconst 1, 1) := by decide +kernel
theorem dX5_add_36 : decode cX5_add 36 = .ok (.iadd, 1) := by decide +kernel
theorem dX5_add_37 : decode cX5_add 37 = .ok (.putfield 15, 3) := by decide +kernel
theorem dX5_add_40 : decode cX5_add 40 = .ok (.return_, 1) := by decide +kernel
theorem dX5_read_0 : decode cX5_read 0 = .ok (.aload_n 0, 1) := by decide +kernel
theorem dX5_read_1 : decode cX5_read 1 = .ok (.iconst 0, 1) := by decide +kernel
theorem dX5_read_2 : decode cX5_read 2 = .ok (.putfield 19, 3) := by decide +kernel
theorem dX5_read_5 : decode cX5_read 5 = .ok (.aload_n 0, 1) := by decide +kernel
theorem dX5_read_6 : decode cX5_read 6 = .ok (.iconst (-1), 1) := by decide +kernel
theorem dX5_read_7 : decode cX5_read 7 = .ok (.putfield 22, 3) := by decide +kernel
theorem dX5_read_10 : decode cX5_read 10 = .ok (.aload_n 0, 1) := by decide +kernel
theorem dX5_read_11 : decode cX5_read 11 = .ok (.iconst 0, 1) := by decide +kernel
theorem dX5_read_12 : decode cX5_read 12 = .ok (.putfield 25, 3) := by decide +kernel
theorem dX5_read_15 : decode cX5_read 15 = .ok (.iconst 0, 1) := by decide +kernel
theorem dX5_read_16 : decode cX5_read 16 = .ok (.istore_n 1, 1) := by decide +kernel
theorem dX5_read_17 : decode cX5_read 17 = .ok (.iload_n 1, 1) := by decide +kernel
theorem dX5_read_18 : decode cX5_read 18 = .ok (.bipush 10, 2) := by decide +kernel
theorem dX5_read_20 : decode cX5_read 20 = .ok (.if_icmp .gt 32, 3) := by decide +kernel
theorem dX5_read_23 : decode cX5_read 23 = .ok (.aload_n 0, 1) := by decide +kernel
theorem dX5_read_24 : decode cX5_read 24 = .ok (.getfield 19, 3) := by decide +kernel
theorem dX5_read_27 : decode cX5_read 27 = .ok (.aload_n 0, 1) := by decide +kernel
theorem dX5_read_28 : decode cX5_read 28 = .ok (.getfield 15, 3) := by decide +kernel
theorem dX5_read_31 : decode cX5_read 31 = .ok (.if_icmp .ge 21, 3) := by decide +kernel
theorem dX5_read_34 : decode cX5_read 34 = .ok (.aload_n 0, 1) := by decide +kernel
theorem dX5_read_35 : decode cX5_read 35 = .ok (.getfield 22, 3) := by decide +kernel
theorem dX5_read_38 : decode cX5_read 38 = .ok (.iconst (-1), 1) := by decide +kernel
theorem dX5_read_39 : decode cX5_read 39 = .ok (.if_icmp .ne 13, 3) := by decide +kernel
theorem dX5_read_42 : decode cX5_read 42 = .ok (.aload_n 0, 1) := by decide +kernel
theorem dX5_read_43 : decode cX5_read 43 = .ok (.invokevirtual 36, 3) := by decide +kernel
theorem dX5_read_46 : decode cX5_read 46 = .ok (.iinc 1 1, 3) := by decide +kernel
theorem dX5_read_49 : decode cX5_read 49 = .ok (.goto (-32), 3) := by decide +kernel
theorem dX5_read_52 : decode cX5_read 52 = .ok (.aload_n 0, 1) := by decide +kernel
theorem dX5_read_53 : decode cX5_read 53 = .ok (.getfield 22, 3) := by decide +kernel
theorem dX5_read_56 : decode cX5_read 56 = .ok (.ireturn, 1) := by decide +kernel
theorem dX5_readRight_0 : decode cX5_readRight 0 = .ok (.aload_n 0, 1) := by decide +kernel
theorem dX5_readRight_1 : decode cX5_readRight 1 = .ok (.getfield 25, 3) := by decide +kernel
theorem dX5_readRight_4 : decode cX5_readRight 4 = .ok (.ifCond .lt 27, 3) := by decide +kernel
theorem dX5_readRight_7 : decode cX5_readRight 7 = .ok (.aload_n 0, 1) := by decide +kernel
theorem dX5_readRight_8 : decode cX5_readRight 8 = .ok (.getfield 25, 3) := by decide +kernel
theorem dX5_readRight_11 : decode cX5_readRight 11 = .ok (.aload_n 0, 1) := by decide +kernel
theorem dX5_readRight_12 : decode cX5_readRight 12 = .ok (.getfield 28, 3) := by decide +kernel
theorem dX5_readRight_15 : decode cX5_readRight 15 = .ok (.arraylength, 1) := by decide +kernel
theorem dX5_readRight_16 : decode cX5_readRight 16 = .ok (.if_icmp .ge 15, 3) := by decide +kernel
theorem dX5_readRight_19 : decode cX5_readRight 19 = .ok (.aload_n 0, 1) := by decide +kernel
theorem dX5_readRight_20 : decode cX5_readRight 20 = .ok (.getfield 25, 3) := by decide +kernel
theorem dX5_readRight_23 : decode cX5_readRight 23 = .ok (.aload_n 0, 1) := by decide +kernel
theorem dX5_readRight_24 : decode cX5_readRight 24 = .ok (.getfield 32, 3) := by decide +kernel
theorem dX5_readRight_27 : decode cX5_readRight 27 = .ok (.arraylength, 1) := by decide +kernel
theorem dX5_readRight_28 : decode cX5_readRight 28 = .ok (.if_icmp .lt 12, 3) := by decide +kernel
theorem dX5_readRight_31 : decode cX5_readRight 31 = .ok (.aload_n 0, 1) := by decide +kernel
theorem dX5_readRight_32 : decode cX5_readRight 32 = .ok (.aload_n 0, 1) := by decide +kernel
theorem dX5_readRight_33 : decode cX5_readRight 33 = .ok (.getfield 19, 3) := by decide +kernel
theorem dX5_readRight_36 : decode cX5_readRight 36 = .ok (.putfield 22, 3) := by decide +kernel
theorem dX5_readRight_39 : decode cX5_readRight 39 = .ok (.return_, 1) := by decide +kernel
theorem dX5_readRight_40 : decode cX5_readRight 40 = .ok (.aload_n 0, 1) := by decide +kernel
theorem dX5_readRight_41 : decode cX5_readRight 41 = .ok (.iconst 0, 1) := by decide +kernel
theorem dX5_readRight_42 : decode cX5_readRight 42 = .ok (.bipush 49, 2) := by decide +kernel
theorem dX5_readRight_44 : decode cX5_readRight 44 = .ok (.invokevirtual 39, 3) := by decide +kernel
theorem dX5_readRight_47 : decode cX5_readRight 47 = .ok (.istore_n 1, 1) := by decide +kernel
theorem dX5_readRight_48 : decode cX5_readRight 48 = .ok (.aload_n 0, 1) := by decide +kernel
theorem dX5_readRight_49 : decode cX5_readRight 49 = .ok (.bipush 45, 2) := by decide +kernel
theorem dX5_readRight_51 : decode cX5_readRight 51 = .ok (.invokevirtual 43, 3) := by decide +kernel
theorem dX5_readRight_54 : decode cX5_readRight 54 = .ok (.aload_n 0, 1) := by decide +kernel
theorem dX5_readRight_55 : decode cX5_readRight 55 = .ok (.iconst 1, 1) := by decide +kernel
theorem dX5_readRight_56 : decode cX5_readRight 56 = .ok (.bipush 12, 2) := by decide +kernel
theorem dX5_readRight_58 : decode cX5_readRight 58 = .ok (.invokevirtual 39, 3) := by decide +kernel
theorem dX5_readRight_61 : decode cX5_readRight 61 = .ok (.istore_n 2, 1) := by decide +kernel
theorem dX5_readRight_62 : decode cX5_readRight 62 = .ok (.aload_n 0, 1) := by decide +kernel
theorem dX5_readRight_63 : decode cX5_readRight 63 = .ok (.bipush 45, 2) := by decide +kernel
theorem dX5_readRight_65 : decode cX5_readRight 65 = .ok (.invokevirtual 43, 3) := by decide +kernel
theorem dX5_readRight_68 : decode cX5_readRight 68 = .ok (.aload_n 0, 1) := by decide +kernel
theorem dX5_readRight_69 : decode cX5_readRight 69 = .ok (.iconst 1, 1) := by decide +kernel
theorem dX5_readRight_70 : decode cX5_readRight 70 = .ok (.iload_n 1, 1) := by decide +kernel
theorem dX5_readRight_71 : decode cX5_readRight 71 = .ok (.iload_n 2, 1) := by decide +kernel
theorem dX5_readRight_72 : decode cX5_readRight 72 = .ok (.invokestatic 47, 3) := by decide +kernel
theorem dX5_readRight_75 : decode cX5_readRight 75 = .ok (.invokevirtual 39, 3) := by decide +kernel
theorem dX5_readRight_78 : decode cX5_readRight 78 = .ok (.istore_n 3, 1) := by decide +kernel
theorem dX5_readRight_79 : decode cX5_readRight 79 = .ok (.aload_n 0, 1) := by decide +kernel
theorem dX5_readRight_80 : decode cX5_readRight 80 = .ok (.invokevirtual 52, 3) := by decide +kernel
theorem dX5_readRight_83 : decode cX5_readRight 83 = .ok (.istore 4, 2) := by decide +kernel
theorem dX5_readRight_85 : decode cX5_readRight 85 = .ok (.aload_n 0, 1) := by decide +kernel
theorem dX5_readRight_86 : decode cX5_readRight 86 = .ok (.bipush 59, 2) := by decide +kernel
theorem dX5_readRight_88 : decode cX5_readRight 88 = .ok (.invokevirtual 43, 3) := by decide +kernel
theorem dX5_readRight_91 : decode cX5_readRight 91 = .ok (.aload_n 0, 1) := by decide +kernel
theorem dX5_readRight_92 : decode cX5_readRight 92 = .ok (.getfield 22, 3) := by decide +kernel
theorem dX5_readRight_95 : decode cX5_readRight 95 = .ok (.iconst (-1), 1) := by decide +kernel
theorem dX5_readRight_96 : decode cX5_readRight 96 = .ok (.if_icmp .ne 39, 3) := by decide +kernel
theorem dX5_readRight_99 : decode cX5_readRight 99 = .ok (.aload_n 0, 1) := by decide +kernel
theorem dX5_readRight_100 : decode cX5_readRight 100 = .ok (.getfield 28, 3) := by decide +kernel
theorem dX5_readRight_103 : decode cX5_readRight 103 = .ok (.aload_n 0, 1) := by decide +kernel
theorem dX5_readRight_104 : decode cX5_readRight 104 = .ok (.getfield 25, 3) := by decide +kernel
theorem dX5_readRight_107 : decode cX5_readRight 107 = .ok (.iload_n 1, 1) := by decide +kernel
theorem dX5_readRight_108 : decode cX5_readRight 108 = .ok (.iload_n 2, 1) := by decide +kernel
theorem dX5_readRight_109 : decode cX5_readRight 109 = .ok (.iload_n 3, 1) := by decide +kernel
theorem dX5_readRight_110 : decode cX5_readRight 110 = .ok (.invokestatic 56, 3) := by decide +kernel
theorem dX5_readRight_113 : decode cX5_readRight 113 = .ok (.iastore, 1) := by decide +kernel
theorem dX5_readRight_114 : decode cX5_readRight 114 = .ok (.aload_n 0, 1) := by decide +kernel
theorem dX5_readRight_115 : decode cX5_readRight 115 = .ok (.getfield 32, 3) := by decide +kernel
theorem dX5_readRight_118 : decode cX5_readRight 118 = .ok (.aload_n 0, 1) := by decide +kernel
theorem dX5_readRight_119 : decode cX5_readRight 119 = .ok (.getfield 25, 3) := by decide +kernel
theorem dX5_readRight_122 : decode cX5_readRight 122 = .ok (.iload 4, 2) := by decide +kernel
theorem dX5_readRight_124 : decode cX5_readRight 124 = .ok (.bastore, 1) := by decide +kernel
theorem dX5_readRight_125 : decode cX5_readRight 125 = .ok (.aload_n 0, 1) := by decide +kernel
theorem dX5_readRight_126 : decode cX5_readRight 126 = .ok (.dup, 1) := by decide +kernel
theorem dX5_readRight_127 : decode cX5_readRight 127 = .ok (.getfield 25, 3) := by decide +kernel
theorem dX5_readRight_130 : decode cX5_readRight 130 = .ok (.iconst 1, 1) := by decide +kernel
theorem dX5_readRight_131 : decode cX5_readRight 131 = .ok (.iadd, 1) := by decide +kernel
theorem dX5_readRight_132 : decode cX5_readRight 132 = .ok (.putfield 25, 3) := by decide +kernel
theorem dX5_readRight_135 : decode cX5_readRight 135 = .ok (.return_, 1) := by decide +kernel
theorem dX5_readNumber_0 : decode cX5_readNumber 0 = .ok (.aload_n 0, 1) := by decide +kernel
theorem dX5_readNumber_1 : decode cX5_readNumber 1 = .ok (.getfield 19, 3) := by decide +kernel
theorem dX5_readNumber_4 : decode cX5_readNumber 4 = .ok (.istore_n 3, 1) := by decide +kernel
theorem dX5_readNumber_5 : decode cX5_readNumber 5 = .ok (.iconst 0, 1) := by decide +kernel
theorem dX5_readNumber_6 : decode cX5_readNumber 6 = .ok (.istore 4, 2) := by decide +kernel
theorem dX5_readNumber_8 : decode cX5_readNumber 8 = .ok (.aload_n 0, 1) := by decide +kernel
theorem dX5_readNumber_9 : decode cX5_readNumber 9 = .ok (.getfield 22, 3) := by decide +kernel
theorem dX5_readNumber_12 : decode cX5_readNumber 12 = .ok (.iconst (-1), 1) := by decide +kernel
theorem dX5_readNumber_13 : decode cX5_readNumber 13 = .ok (.if_icmp .ne 56, 3) := by decide +kernel
theorem dX5_readNumber_16 : decode cX5_readNumber 16 = .ok (.aload_n 0, 1) := by decide +kernel
theorem dX5_readNumber_17 : decode cX5_readNumber 17 = .ok (.getfield 19, 3) := by decide +kernel
theorem dX5_readNumber_20 : decode cX5_readNumber 20 = .ok (.iload_n 3, 1) := by decide +kernel
theorem dX5_readNumber_21 : decode cX5_readNumber 21 = .ok (.iconst 2, 1) := by decide +kernel
theorem dX5_readNumber_22 : decode cX5_readNumber 22 = .ok (.iadd, 1) := by decide +kernel
theorem dX5_readNumber_23 : decode cX5_readNumber 23 = .ok (.if_icmp .ge 46, 3) := by decide +kernel
theorem dX5_readNumber_26 : decode cX5_readNumber 26 = .ok (.aload_n 0, 1) := by decide +kernel
theorem dX5_readNumber_27 : decode cX5_readNumber 27 = .ok (.aload_n 0, 1) := by decide +kernel
theorem dX5_readNumber_28 : decode cX5_readNumber 28 = .ok (.getfield 19, 3) := by decide +kernel
theorem dX5_readNumber_31 : decode cX5_readNumber 31 = .ok (.invokevirtual 60, 3) := by decide +kernel
theorem dX5_readNumber_34 : decode cX5_readNumber 34 = .ok (.ifCond .eq 35, 3) := by decide +kernel
theorem dX5_readNumber_37 : decode cX5_readNumber 37 = .ok (.bipush 10, 2) := by decide +kernel
theorem dX5_readNumber_39 : decode cX5_readNumber 39 = .ok (.iload 4, 2) := by decide +kernel
theorem dX5_readNumber_41 : decode cX5_readNumber 41 = .ok (.imul, 1) := by decide +kernel
theorem dX5_readNumber_42 : decode cX5_readNumber 42 = .ok (.aload_n 0, 1) := by decide +kernel
theorem dX5_readNumber_43 : decode cX5_readNumber 43 = .ok (.aload_n 0, 1) := by decide +kernel
theorem dX5_readNumber_44 : decode cX5_readNumber 44 = .ok (.getfield 19, 3) := by decide +kernel
theorem dX5_readNumber_47 : decode cX5_readNumber 47 = .ok (.invokevirtual 64, 3) := by decide +kernel
theorem dX5_readNumber_50 : decode cX5_readNumber 50 = .ok (.iadd, 1) := by decide +kernel
theorem dX5_readNumber_51 : decode cX5_readNumber 51 = .ok (.bipush 48, 2) := by decide +kernel
theorem dX5_readNumber_53 : decode cX5_readNumber 53 = .ok (.isub, 1) := by decide +kernel
theorem dX5_readNumber_54 : decode cX5_readNumber 54 = .ok (.istore 4, 2) := by decide +kernel
theorem dX5_readNumber_56 : decode cX5_readNumber 56 = .ok (.aload_n 0, 1) := by decide +kernel
theorem dX5_readNumber_57 : decode cX5_readNumber 57 = .ok (.dup, 1) := by decide +kernel
theorem dX5_readNumber_58 : decode cX5_readNumber 58 = .ok (.getfield 19, 3) := by decide +kernel
theorem dX5_readNumber_61 : decode cX5_readNumber 61 = .ok (.iconst 1, 1) := by decide +kernel
theorem dX5_readNumber_62 : decode cX5_readNumber 62 = .ok (.iadd, 1) := by decide +kernel
theorem dX5_readNumber_63 : decode cX5_readNumber 63 = .ok (.putfield 19, 3) := by decide +kernel
theorem dX5_readNumber_66 : decode cX5_readNumber 66 = .ok (.goto (-58), 3) := by decide +kernel
theorem dX5_readNumber_69 : decode cX5_readNumber 69 = .ok (.aload_n 0, 1) := by decide +kernel
theorem dX5_readNumber_70 : decode cX5_readNumber 70 = .ok (.getfield 22, 3) := by decide +kernel
theorem dX5_readNumber_73 : decode cX5_readNumber 73 = .ok (.iconst (-1), 1) := by decide +kernel
theorem dX5_readNumber_74 : decode cX5_readNumber 74 = .ok (.if_icmp .eq 5, 3) := by decide +kernel
theorem dX5_readNumber_77 : decode cX5_readNumber 77 = .ok (.iload_n 1, 1) := by decide +kernel
theorem dX5_readNumber_78 : decode cX5_readNumber 78 = .ok (.ireturn, 1) := by decide +kernel
theorem dX5_readNumber_79 : decode cX5_readNumber 79 = .ok (.aload_n 0, 1) := by decide +kernel
theorem dX5_readNumber_80 : decode cX5_readNumber 80 = .ok (.getfield 19, 3) := by decide +kernel
theorem dX5_readNumber_83 : decode cX5_readNumber 83 = .ok (.iload_n 3, 1) := by decide +kernel
theorem dX5_readNumber_84 : decode cX5_readNumber 84 = .ok (.if_icmp .eq 14, 3) := by decide +kernel
theorem dX5_readNumber_87 : decode cX5_readNumber 87 = .ok (.aload_n 0, 1) := by decide +kernel
theorem dX5_readNumber_88 : decode cX5_readNumber 88 = .ok (.aload_n 0, 1) := by decide +kernel
theorem dX5_readNumber_89 : decode cX5_readNumber 89 = .ok (.getfield 19, 3) := by decide +kernel
theorem dX5_readNumber_92 : decode cX5_readNumber 92 = .ok (.invokevirtual 60, 3) := by decide +kernel
theorem dX5_readNumber_95 : decode cX5_readNumber 95 = .ok (.ifCond .eq 14, 3) := by decide +kernel
theorem dX5_readNumber_98 : decode cX5_readNumber 98 = .ok (.aload_n 0, 1) := by decide +kernel
theorem dX5_readNumber_99 : decode cX5_readNumber 99 = .ok (.aload_n 0, 1) := by decide +kernel
theorem dX5_readNumber_100 : decode cX5_readNumber 100 = .ok (.getfield 19, 3) := by decide +kernel
theorem dX5_readNumber_103 : decode cX5_readNumber 103 = .ok (.putfield 22, 3) := by decide +kernel
theorem dX5_readNumber_106 : decode cX5_readNumber 106 = .ok (.goto 20, 3) := by decide +kernel
theorem dX5_readNumber_109 : decode cX5_readNumber 109 = .ok (.iload 4, 2) := by decide +kernel
theorem dX5_readNumber_111 : decode cX5_readNumber 111 = .ok (.iload_n 1, 1) := by decide +kernel
theorem dX5_readNumber_112 : decode cX5_readNumber 112 = .ok (.if_icmp .lt 9, 3) := by decide +kernel
theorem dX5_readNumber_115 : decode cX5_readNumber 115 = .ok (.iload 4, 2) := by decide +kernel
theorem dX5_readNumber_117 : decode cX5_readNumber 117 = .ok (.iload_n 2, 1) := by decide +kernel
theorem dX5_readNumber_118 : decode cX5_readNumber 118 = .ok (.if_icmp .le 8, 3) := by decide +kernel
theorem dX5_readNumber_121 : decode cX5_readNumber 121 = .ok (.aload_n 0, 1) := by decide +kernel
theorem dX5_readNumber_122 : decode cX5_readNumber 122 = .ok (.iload_n 3, 1) := by decide +kernel
theorem dX5_readNumber_123 : decode cX5_readNumber 123 = .ok (.putfield 22, 3) := by decide +kernel
theorem dX5_readNumber_126 : decode cX5_readNumber 126 = .ok (.iload 4, 2) := by decide +kernel
theorem dX5_readNumber_128 : decode cX5_readNumber 128 = .ok (.ireturn, 1) := by decide +kernel
theorem dX5_readSign_0 : decode cX5_readSign 0 = .ok (.aload_n 0, 1) := by decide +kernel
theorem dX5_readSign_1 : decode cX5_readSign 1 = .ok (.getfield 22, 3) := by decide +kernel
theorem dX5_readSign_4 : decode cX5_readSign 4 = .ok (.iconst (-1), 1) := by decide +kernel
theorem dX5_readSign_5 : decode cX5_readSign 5 = .ok (.if_icmp .eq 4, 3) := by decide +kernel
theorem dX5_readSign_8 : decode cX5_readSign 8 = .ok (.return_, 1) := by decide +kernel
theorem dX5_readSign_9 : decode cX5_readSign 9 = .ok (.aload_n 0, 1) := by decide +kernel
theorem dX5_readSign_10 : decode cX5_readSign 10 = .ok (.aload_n 0, 1) := by decide +kernel
theorem dX5_readSign_11 : decode cX5_readSign 11 = .ok (.getfield 19, 3) := by decide +kernel
theorem dX5_readSign_14 : decode cX5_readSign 14 = .ok (.invokevirtual 64, 3) := by decide +kernel
theorem dX5_readSign_17 : decode cX5_readSign 17 = .ok (.iload_n 1, 1) := by decide +kernel
theorem dX5_readSign_18 : decode cX5_readSign 18 = .ok (.if_icmp .ne 16, 3) := by decide +kernel
theorem dX5_readSign_21 : decode cX5_readSign 21 = .ok (.aload_n 0, 1) := by decide +kernel
theorem dX5_readSign_22 : decode cX5_readSign 22 = .ok (.dup, 1) := by decide +kernel
theorem dX5_readSign_23 : decode cX5_readSign 23 = .ok (.getfield 19, 3) := by decide +kernel
theorem dX5_readSign_26 : decode cX5_readSign 26 = .ok (.iconst 1, 1) := by decide +kernel
theorem dX5_readSign_27 : decode cX5_readSign 27 = .ok (.iadd, 1) := by decide +kernel
theorem dX5_readSign_28 : decode cX5_readSign 28 = .ok (.putfield 19, 3) := by decide +kernel
theorem dX5_readSign_31 : decode cX5_readSign 31 = .ok (.goto 11, 3) := by decide +kernel
theorem dX5_readSign_34 : decode cX5_readSign 34 = .ok (.aload_n 0, 1) := by decide +kernel
theorem dX5_readSign_35 : decode cX5_readSign 35 = .ok (.aload_n 0, 1) := by decide +kernel
theorem dX5_readSign_36 : decode cX5_readSign 36 = .ok (.getfield 19, 3) := by decide +kernel
theorem dX5_readSign_39 : decode cX5_readSign 39 = .ok (.putfield 22, 3) := by decide +kernel
theorem dX5_readSign_42 : decode cX5_readSign 42 = .ok (.return_, 1) := by decide +kernel
theorem dX5_readSmall_0 : decode cX5_readSmall 0 = .ok (.aload_n 0, 1) := by decide +kernel
theorem dX5_readSmall_1 : decode cX5_readSmall 1 = .ok (.getfield 22, 3) := by decide +kernel
theorem dX5_readSmall_4 : decode cX5_readSmall 4 = .ok (.iconst (-1), 1) := by decide +kernel
theorem dX5_readSmall_5 : decode cX5_readSmall 5 = .ok (.if_icmp .ne 16, 3) := by decide +kernel
theorem dX5_readSmall_8 : decode cX5_readSmall 8 = .ok (.aload_n 0, 1) := by decide +kernel
theorem dX5_readSmall_9 : decode cX5_readSmall 9 = .ok (.aload_n 0, 1) := by decide +kernel
theorem dX5_readSmall_10 : decode cX5_readSmall 10 = .ok (.getfield 19, 3) := by decide +kernel
theorem dX5_readSmall_13 : decode cX5_readSmall 13 = .ok (.invokevirtual 64, 3) := by decide +kernel
theorem dX5_readSmall_16 : decode cX5_readSmall 16 = .ok (.bipush 115, 2) := by decide +kernel
theorem dX5_readSmall_18 : decode cX5_readSmall 18 = .ok (.if_icmp .eq 5, 3) := by decide +kernel
theorem dX5_readSmall_21 : decode cX5_readSmall 21 = .ok (.iconst 0, 1) := by decide +kernel
theorem dX5_readSmall_22 : decode cX5_readSmall 22 = .ok (.ireturn, 1) := by decide +kernel
theorem dX5_readSmall_23 : decode cX5_readSmall 23 = .ok (.aload_n 0, 1) := by decide +kernel
theorem dX5_readSmall_24 : decode cX5_readSmall 24 = .ok (.dup, 1) := by decide +kernel
theorem dX5_readSmall_25 : decode cX5_readSmall 25 = .ok (.getfield 19, 3) := by decide +kernel
theorem dX5_readSmall_28 : decode cX5_readSmall 28 = .ok (.iconst 1, 1) := by decide +kernel
theorem dX5_readSmall_29 : decode cX5_readSmall 29 = .ok (.iadd, 1) := by decide +kernel
theorem dX5_readSmall_30 : decode cX5_readSmall 30 = .ok (.putfield 19, 3) := by decide +kernel
theorem dX5_readSmall_33 : decode cX5_readSmall 33 = .ok (.iconst 1, 1) := by decide +kernel
theorem dX5_readSmall_34 : decode cX5_readSmall 34 = .ok (.ireturn, 1) := by decide +kernel
theorem dX5_isDigit_0 : decode cX5_isDigit 0 = .ok (.aload_n 0, 1) := by decide +kernel
theorem dX5_isDigit_1 : decode cX5_isDigit 1 = .ok (.iload_n 1, 1) := by decide +kernel
theorem dX5_isDigit_2 : decode cX5_isDigit 2 = .ok (.invokevirtual 64, 3) := by decide +kernel
theorem dX5_isDigit_5 : decode cX5_isDigit 5 = .ok (.bipush 48, 2) := by decide +kernel
theorem dX5_isDigit_7 : decode cX5_isDigit 7 = .ok (.if_icmp .lt 17, 3) := by decide +kernel
theorem dX5_isDigit_10 : decode cX5_isDigit 10 = .ok (.aload_n 0, 1) := by decide +kernel
theorem dX5_isDigit_11 : decode cX5_isDigit 11 = .ok (.iload_n 1, 1) := by decide +kernel
theorem dX5_isDigit_12 : decode cX5_isDigit 12 = .ok (.invokevirtual 64, 3) := by decide +kernel
theorem dX5_isDigit_15 : decode cX5_isDigit 15 = .ok (.bipush 57, 2) := by decide +kernel
theorem dX5_isDigit_17 : decode cX5_isDigit 17 = .ok (.if_icmp .gt 7, 3) := by decide +kernel
theorem dX5_isDigit_20 : decode cX5_isDigit 20 = .ok (.iconst 1, 1) := by decide +kernel
theorem dX5_isDigit_21 : decode cX5_isDigit 21 = .ok (.goto 4, 3) := by decide +kernel
theorem dX5_isDigit_24 : decode cX5_isDigit 24 = .ok (.iconst 0, 1) := by decide +kernel
theorem dX5_isDigit_25 : decode cX5_isDigit 25 = .ok (.ireturn, 1) := by decide +kernel
theorem dX5_signAt_0 : decode cX5_signAt 0 = .ok (.iload_n 1, 1) := by decide +kernel
theorem dX5_signAt_1 : decode cX5_signAt 1 = .ok (.ifCond .lt 29, 3) := by decide +kernel
theorem dX5_signAt_4 : decode cX5_signAt 4 = .ok (.iload_n 1, 1) := by decide +kernel
theorem dX5_signAt_5 : decode cX5_signAt 5 = .ok (.aload_n 0, 1) := by decide +kernel
theorem dX5_signAt_6 : decode cX5_signAt 6 = .ok (.getfield 15, 3) := by decide +kernel
theorem dX5_signAt_9 : decode cX5_signAt 9 = .ok (.if_icmp .ge 21, 3) := by decide +kernel
theorem dX5_signAt_12 : decode cX5_signAt 12 = .ok (.iload_n 1, 1) := by decide +kernel
theorem dX5_signAt_13 : decode cX5_signAt 13 = .ok (.aload_n 0, 1) := by decide +kernel
theorem dX5_signAt_14 : decode cX5_signAt 14 = .ok (.getfield 9, 3) := by decide +kernel
theorem dX5_signAt_17 : decode cX5_signAt 17 = .ok (.arraylength, 1) := by decide +kernel
theorem dX5_signAt_18 : decode cX5_signAt 18 = .ok (.if_icmp .ge 12, 3) := by decide +kernel
theorem dX5_signAt_21 : decode cX5_signAt 21 = .ok (.aload_n 0, 1) := by decide +kernel
theorem dX5_signAt_22 : decode cX5_signAt 22 = .ok (.getfield 9, 3) := by decide +kernel
theorem dX5_signAt_25 : decode cX5_signAt 25 = .ok (.iload_n 1, 1) := by decide +kernel
theorem dX5_signAt_26 : decode cX5_signAt 26 = .ok (.baload, 1) := by decide +kernel
theorem dX5_signAt_27 : decode cX5_signAt 27 = .ok (.goto 4, 3) := by decide +kernel
theorem dX5_signAt_30 : decode cX5_signAt 30 = .ok (.iconst (-1), 1) := by decide +kernel
theorem dX5_signAt_31 : decode cX5_signAt 31 = .ok (.ireturn, 1) := by decide +kernel
theorem dJ7_fill_53178_0 : decode cJ7_fill_53178 0 = .ok (.iconst 0, 1) := by decide +kernel
theorem dJ7_fill_53178_1 : decode cJ7_fill_53178 1 = .ok (.istore_n 2, 1) := by decide +kernel
theorem dJ7_fill_53178_2 : decode cJ7_fill_53178 2 = .ok (.aload_n 0, 1) := by decide +kernel
theorem dJ7_fill_53178_3 : decode cJ7_fill_53178 3 = .ok (.arraylength, 1) := by decide +kernel
theorem dJ7_fill_53178_4 : decode cJ7_fill_53178 4 = .ok (.istore_n 3, 1) := by decide +kernel
theorem dJ7_fill_53178_5 : decode cJ7_fill_53178 5 = .ok (.iload_n 2, 1) := by decide +kernel
theorem dJ7_fill_53178_6 : decode cJ7_fill_53178 6 = .ok (.iload_n 3, 1) := by decide +kernel
theorem dJ7_fill_53178_7 : decode cJ7_fill_53178 7 = .ok (.if_icmp .ge 13, 3) := by decide +kernel
theorem dJ7_fill_53178_10 : decode cJ7_fill_53178 10 = .ok (.aload_n 0, 1) := by decide +kernel
theorem dJ7_fill_53178_11 : decode cJ7_fill_53178 11 = .ok (.iload_n 2, 1) := by decide +kernel
theorem dJ7_fill_53178_12 : decode cJ7_fill_53178 12 = .ok (.iload_n 1, 1) := by decide +kernel
theorem dJ7_fill_53178_13 : decode cJ7_fill_53178 13 = .ok (.iastore, 1) := by decide +kernel
theorem dJ7_fill_53178_14 : decode cJ7_fill_53178 14 = .ok (.iinc 2 1, 3) := by decide +kernel
theorem dJ7_fill_53178_17 : decode cJ7_fill_53178 17 = .ok (.goto (-12), 3) := by decide +kernel
theorem dJ7_fill_53178_20 : decode cJ7_fill_53178 20 = .ok (.return_, 1) := by decide +kernel
