theorem dL_date_0 : decode cL_date 0 = .ok (.aload_n 2, 1) := by decide +kernel
theorem dL_date_1 : decode cL_date 1 = .ok (.iconst 0, 1) := by decide +kernel
theorem dL_date_2 : decode cL_date 2 = .ok (.aload_n 0, 1) := by decide +kernel
theorem dL_date_3 : decode cL_date 3 = .ok (.iload_n 1, 1) := by decide +kernel
theorem dL_date_4 : decode cL_date 4 = .ok (.invokevirtual 7, 3) := by decide +kernel
theorem dL_date_7 : decode cL_date 7 = .ok (.i2l, 1) := by decide +kernel
theorem dL_date_8 : decode cL_date 8 = .ok (.lastore, 1) := by decide +kernel
theorem dL_date_9 : decode cL_date 9 = .ok (.goto 6, 3) := by decide +kernel
theorem dL_date_12 : decode cL_date 12 = .ok (.astore_n 3, 1) := by decide +kernel
theorem dL_date_13 : decode cL_date 13 = .ok (.iconst 1, 1) := by decide +kernel
theorem dL_date_14 : decode cL_date 14 = .ok (.ireturn, 1) := by decide +kernel
theorem dL_date_15 : decode cL_date 15 = .ok (.iconst 0, 1) := by decide +kernel
theorem dL_date_16 : decode cL_date 16 = .ok (.ireturn, 1) := by decide +kernel
theorem dL_day_0 : decode cL_day 0 = .ok (.aload 4, 2) := by decide +kernel
theorem dL_day_2 : decode cL_day 2 = .ok (.iconst 0, 1) := by decide +kernel
theorem dL_day_3 : decode cL_day 3 = .ok (.aload_n 0, 1) := by decide +kernel
theorem dL_day_4 : decode cL_day 4 = .ok (.iload_n 1, 1) := by decide +kernel
theorem dL_day_5 : decode cL_day 5 = .ok (.iload_n 2, 1) := by decide +kernel
theorem dL_day_6 : decode cL_day 6 = .ok (.iload_n 3, 1) := by decide +kernel
theorem dL_day_7 : decode cL_day 7 = .ok (.invokevirtual 15, 3) := by decide +kernel
theorem dL_day_10 : decode cL_day 10 = .ok (.i2l, 1) := by decide +kernel
theorem dL_day_11 : decode cL_day 11 = .ok (.lastore, 1) := by decide +kernel
theorem dL_day_12 : decode cL_day 12 = .ok (.goto 7, 3) := by decide +kernel
theorem dL_day_15 : decode cL_day 15 = .ok (.astore 5, 2) := by decide +kernel
theorem dL_day_17 : decode cL_day 17 = .ok (.iconst 1, 1) := by decide +kernel
theorem dL_day_18 : decode cL_day 18 = .ok (.ireturn, 1) := by decide +kernel
theorem dL_day_19 : decode cL_day 19 = .ok (.iconst 0, 1) := by decide +kernel
theorem dL_day_20 : decode cL_day 20 = .ok (.ireturn, 1) := by decide +kernel
theorem dL_later_0 : decode cL_later 0 = .ok (.aload_n 3, 1) := by decide +kernel
theorem dL_later_1 : decode cL_later 1 = .ok (.iconst 0, 1) := by decide +kernel
theorem dL_later_2 : decode cL_later 2 = .ok (.aload_n 0, 1) := by decide +kernel
theorem dL_later_3 : decode cL_later 3 = .ok (.iload_n 1, 1) := by decide +kernel
theorem dL_later_4 : decode cL_later 4 = .ok (.iload_n 2, 1) := by decide +kernel
theorem dL_later_5 : decode cL_later 5 = .ok (.invokevirtual 19, 3) := by decide +kernel
theorem dL_later_8 : decode cL_later 8 = .ok (.i2l, 1) := by decide +kernel
theorem dL_later_9 : decode cL_later 9 = .ok (.lastore, 1) := by decide +kernel
theorem dL_later_10 : decode cL_later 10 = .ok (.goto 7, 3) := by decide +kernel
theorem dL_later_13 : decode cL_later 13 = .ok (.astore 4, 2) := by decide +kernel
theorem dL_later_15 : decode cL_later 15 = .ok (.iconst 1, 1) := by decide +kernel
theorem dL_later_16 : decode cL_later 16 = .ok (.ireturn, 1) := by decide +kernel
theorem dL_later_17 : decode cL_later 17 = .ok (.iconst 0, 1) := by decide +kernel
theorem dL_later_18 : decode cL_later 18 = .ok (.ireturn, 1) := by decide +kernel
theorem dL_putOff_0 : decode cL_putOff 0 = .ok (.aload_n 2, 1) := by decide +kernel
theorem dL_putOff_1 : decode cL_putOff 1 = .ok (.iconst 0, 1) := by decide +kernel
theorem dL_putOff_2 : decode cL_putOff 2 = .ok (.aload_n 0, 1) := by decide +kernel
theorem dL_putOff_3 : decode cL_putOff 3 = .ok (.iload_n 1, 1) := by decide +kernel
theorem dL_putOff_4 : decode cL_putOff 4 = .ok (.invokevirtual 23, 3) := by decide +kernel
theorem dL_putOff_7 : decode cL_putOff 7 = .ok (.i2l, 1) := by decide +kernel
theorem dL_putOff_8 : decode cL_putOff 8 = .ok (.lastore, 1) := by decide +kernel
theorem dL_putOff_9 : decode cL_putOff 9 = .ok (.goto 6, 3) := by decide +kernel
theorem dL_putOff_12 : decode cL_putOff 12 = .ok (.astore_n 3, 1) := by decide +kernel
theorem dL_putOff_13 : decode cL_putOff 13 = .ok (.iconst 1, 1) := by decide +kernel
theorem dL_putOff_14 : decode cL_putOff 14 = .ok (.ireturn, 1) := by decide +kernel
theorem dL_putOff_15 : decode cL_putOff 15 = .ok (.iconst 0, 1) := by decide +kernel
theorem dL_putOff_16 : decode cL_putOff 16 = .ok (.ireturn, 1) := by decide +kernel
theorem dL_holiday_0 : decode cL_holiday 0 = .ok (.aload_n 3, 1) := by decide +kernel
theorem dL_holiday_1 : decode cL_holiday 1 = .ok (.iconst 0, 1) := by decide +kernel
theorem dL_holiday_2 : decode cL_holiday 2 = .ok (.aload_n 0, 1) := by decide +kernel
theorem dL_holiday_3 : decode cL_holiday 3 = .ok (.iload_n 1, 1) := by decide +kernel
theorem dL_holiday_4 : decode cL_holiday 4 = .ok (.iload_n 2, 1) := by decide +kernel
theorem dL_holiday_5 : decode cL_holiday 5 = .ok (.invokevirtual 26, 3) := by decide +kernel
theorem dL_holiday_8 : decode cL_holiday 8 = .ok (.i2l, 1) := by decide +kernel
theorem dL_holiday_9 : decode cL_holiday 9 = .ok (.lastore, 1) := by decide +kernel
theorem dL_holiday_10 : decode cL_holiday 10 = .ok (.goto 11, 3) := by decide +kernel
theorem dL_holiday_13 : decode cL_holiday 13 = .ok (.astore 4, 2) := by decide +kernel
theorem dL_holiday_15 : decode cL_holiday 15 = .ok (.iconst 1, 1) := by decide +kernel
theorem dL_holiday_16 : decode cL_holiday 16 = .ok (.ireturn, 1) := by decide +kernel
theorem dL_holiday_17 : decode cL_holiday 17 = .ok (.astore 4, 2) := by decide +kernel
theorem dL_holiday_19 : decode cL_holiday 19 = .ok (.iconst 2, 1) := by decide +kernel
theorem dL_holiday_20 : decode cL_holiday 20 = .ok (.ireturn, 1) := by decide +kernel
theorem dL_holiday_21 : decode cL_holiday 21 = .ok (.iconst 0, 1) := by decide +kernel
theorem dL_holiday_22 : decode cL_holiday 22 = .ok (.ireturn, 1) := by decide +kernel
theorem dL_file_0 : decode cL_file 0 = .ok (.aload_n 2, 1) := by decide +kernel
theorem dL_file_1 : decode cL_file 1 = .ok (.iconst 0, 1) := by decide +kernel
theorem dL_file_2 : decode cL_file 2 = .ok (.aload_n 0, 1) := by decide +kernel
theorem dL_file_3 : decode cL_file 3 = .ok (.iload_n 1, 1) := by decide +kernel
theorem dL_file_4 : decode cL_file 4 = .ok (.invokevirtual 31, 3) := by decide +kernel
theorem dL_file_7 : decode cL_file 7 = .ok (.i2l, 1) := by decide +kernel
theorem dL_file_8 : decode cL_file 8 = .ok (.lastore, 1) := by decide +kernel
theorem dL_file_9 : decode cL_file 9 = .ok (.goto 6, 3) := by decide +kernel
theorem dL_file_12 : decode cL_file 12 = .ok (.astore_n 3, 1) := by decide +kernel
theorem dL_file_13 : decode cL_file 13 = .ok (.iconst 1, 1) := by decide +kernel
theorem dL_file_14 : decode cL_file 14 = .ok (.ireturn, 1) := by decide +kernel
theorem dL_file_15 : decode cL_file 15 = .ok (.iconst 0, 1) := by decide +kernel
theorem dL_file_16 : decode cL_file 16 = .ok (.ireturn, 1) := by decide +kernel
theorem dL_pass_0 : decode cL_pass 0 = .ok (.aload_n 2, 1) := by decide +kernel
theorem dL_pass_1 : decode cL_pass 1 = .ok (.iconst 0, 1) := by decide +kernel
theorem dL_pass_2 : decode cL_pass 2 = .ok (.aload_n 0, 1) := by decide +kernel
theorem dL_pass_3 : decode cL_pass 3 = .ok (.iload_n 1, 1) := by decide +kernel
theorem dL_pass_4 : decode cL_pass 4 = .ok (.invokevirtual 35, 3) := by decide +kernel
theorem dL_pass_7 : decode cL_pass 7 = .ok (.i2l, 1) := by decide +kernel
theorem dL_pass_8 : decode cL_pass 8 = .ok (.lastore, 1) := by decide +kernel
theorem dL_pass_9 : decode cL_pass 9 = .ok (.goto 9, 3) := by decide +kernel
theorem dL_pass_12 : decode cL_pass 12 = .ok (.astore_n 3, 1) := by decide +kernel
theorem dL_pass_13 : decode cL_pass 13 = .ok (.iconst 1, 1) := by decide +kernel
theorem dL_pass_14 : decode cL_pass 14 = .ok (.ireturn, 1) := by decide +kernel
theorem dL_pass_15 : decode cL_pass 15 = .ok (.astore_n 3, 1) := by decide +kernel
theorem dL_pass_16 : decode cL_pass 16 = .ok (.iconst 2, 1) := by decide +kernel
theorem dL_pass_17 : decode cL_pass 17 = .ok (.ireturn, 1) := by decide +kernel
theorem dL_pass_18 : decode cL_pass 18 = .ok (.iconst 0, 1) := by decide +kernel
theorem dL_pass_19 : decode cL_pass 19 = .ok (.ireturn, 1) := by decide +kernel
theorem dL_pay_0 : decode cL_pay 0 = .ok (.aload_n 2, 1) := by decide +kernel
theorem dL_pay_1 : decode cL_pay 1 = .ok (.iconst 0, 1) := by decide +kernel
theorem dL_pay_2 : decode cL_pay 2 = .ok (.aload_n 0, 1) := by decide +kernel
theorem dL_pay_3 : decode cL_pay 3 = .ok (.iload_n 1, 1) := by decide +kernel
theorem dL_pay_4 : decode cL_pay 4 = .ok (.invokevirtual 38, 3) := by decide +kernel
theorem dL_pay_7 : decode cL_pay 7 = .ok (.i2l, 1) := by decide +kernel
theorem dL_pay_8 : decode cL_pay 8 = .ok (.lastore, 1) := by decide +kernel
theorem dL_pay_9 : decode cL_pay 9 = .ok (.goto 9, 3) := by decide +kernel
theorem dL_pay_12 : decode cL_pay 12 = .ok (.astore_n 3, 1) := by decide +kernel
theorem dL_pay_13 : decode cL_pay 13 = .ok (.iconst 1, 1) := by decide +kernel
theorem dL_pay_14 : decode cL_pay 14 = .ok (.ireturn, 1) := by decide +kernel
theorem dL_pay_15 : decode cL_pay 15 = .ok (.astore_n 3, 1) := by decide +kernel
theorem dL_pay_16 : decode cL_pay 16 = .ok (.iconst 2, 1) := by decide +kernel
theorem dL_pay_17 : decode cL_pay 17 = .ok (.ireturn, 1) := by decide +kernel
theorem dL_pay_18 : decode cL_pay 18 = .ok (.iconst 0, 1) := by decide +kernel
theorem dL_pay_19 : decode cL_pay 19 = .ok (.ireturn, 1) := by decide +kernel
theorem dL_revive_0 : decode cL_revive 0 = .ok (.aload_n 2, 1) := by decide +kernel
theorem dL_revive_1 : decode cL_revive 1 = .ok (.iconst 0, 1) := by decide +kernel
theorem dL_revive_2 : decode cL_revive 2 = .ok (.aload_n 0, 1) := by decide +kernel
theorem dL_revive_3 : decode cL_revive 3 = .ok (.iload_n 1, 1) := by decide +kernel
theorem dL_revive_4 : decode cL_revive 4 = .ok (.invokevirtual 43, 3) := by decide +kernel
theorem dL_revive_7 : decode cL_revive 7 = .ok (.i2l, 1) := by decide +kernel
theorem dL_revive_8 : decode cL_revive 8 = .ok (.lastore, 1) := by decide +kernel
theorem dL_revive_9 : decode cL_revive 9 = .ok (.goto 9, 3) := by decide +kernel
theorem dL_revive_12 : decode cL_revive 12 = .ok (.astore_n 3, 1) := by decide +kernel
theorem dL_revive_13 : decode cL_revive 13 = .ok (.iconst 1, 1) := by decide +kernel
theorem dL_revive_14 : decode cL_revive 14 = .ok (.ireturn, 1) := by decide +kernel
theorem dL_revive_15 : decode cL_revive 15 = .ok (.astore_n 3, 1) := by decide +kernel
theorem dL_revive_16 : decode cL_revive 16 = .ok (.iconst 2, 1) := by decide +kernel
theorem dL_revive_17 : decode cL_revive 17 = .ok (.ireturn, 1) := by decide +kernel
theorem dL_revive_18 : decode cL_revive 18 = .ok (.iconst 0, 1) := by decide +kernel
theorem dL_revive_19 : decode cL_revive 19 = .ok (.ireturn, 1) := by decide +kernel
theorem dL_use_0 : decode cL_use 0 = .ok (.aload_n 3, 1) := by decide +kernel
theorem dL_use_1 : decode cL_use 1 = .ok (.iconst 0, 1) := by decide +kernel
theorem dL_use_2 : decode cL_use 2 = .ok (.aload_n 0, 1) := by decide +kernel
theorem dL_use_3 : decode cL_use 3 = .ok (.iload_n 1, 1) := by decide +kernel
theorem dL_use_4 : decode cL_use 4 = .ok (.iload_n 2, 1) := by decide +kernel
theorem dL_use_5 : decode cL_use 5 = .ok (.invokevirtual 46, 3) := by decide +kernel
theorem dL_use_8 : decode cL_use 8 = .ok (.i2l, 1) := by decide +kernel
theorem dL_use_9 : decode cL_use 9 = .ok (.lastore, 1) := by decide +kernel
theorem dL_use_10 : decode cL_use 10 = .ok (.goto 15, 3) := by decide +kernel
theorem dL_use_13 : decode cL_use 13 = .ok (.astore 4, 2) := by decide +kernel
theorem dL_use_15 : decode cL_use 15 = .ok (.iconst 1, 1) := by decide +kernel
theorem dL_use_16 : decode cL_use 16 = .ok (.ireturn, 1) := by decide +kernel
theorem dL_use_17 : decode cL_use 17 = .ok (.astore 4, 2) := by decide +kernel
theorem dL_use_19 : decode cL_use 19 = .ok (.iconst 2, 1) := by decide +kernel
theorem dL_use_20 : decode cL_use 20 = .ok (.ireturn, 1) := by decide +kernel
theorem dL_use_21 : decode cL_use 21 = .ok (.astore 4, 2) := by decide +kernel
theorem dL_use_23 : decode cL_use 23 = .ok (.iconst 3, 1) := by decide +kernel
theorem dL_use_24 : decode cL_use 24 = .ok (.ireturn, 1) := by decide +kernel
theorem dL_use_25 : decode cL_use 25 = .ok (.iconst 0, 1) := by decide +kernel
theorem dL_use_26 : decode cL_use 26 = .ok (.ireturn, 1) := by decide +kernel
theorem dL_setFees_0 : decode cL_setFees 0 = .ok (.aload 5, 2) := by decide +kernel
theorem dL_setFees_2 : decode cL_setFees 2 = .ok (.iconst 0, 1) := by decide +kernel
theorem dL_setFees_3 : decode cL_setFees 3 = .ok (.aload_n 0, 1) := by decide +kernel
theorem dL_setFees_4 : decode cL_setFees 4 = .ok (.iload_n 1, 1) := by decide +kernel
theorem dL_setFees_5 : decode cL_setFees 5 = .ok (.iload_n 2, 1) := by decide +kernel
theorem dL_setFees_6 : decode cL_setFees 6 = .ok (.iload_n 3, 1) := by decide +kernel
theorem dL_setFees_7 : decode cL_setFees 7 = .ok (.iload 4, 2) := by decide +kernel
theorem dL_setFees_9 : decode cL_setFees 9 = .ok (.invokevirtual 49, 3) := by decide +kernel
theorem dL_setFees_12 : decode cL_setFees 12 = .ok (.i2l, 1) := by decide +kernel
theorem dL_setFees_13 : decode cL_setFees 13 = .ok (.lastore, 1) := by decide +kernel
theorem dL_setFees_14 : decode cL_setFees 14 = .ok (.goto 7, 3) := by decide +kernel
theorem dL_setFees_17 : decode cL_setFees 17 = .ok (.astore 6, 2) := by decide +kernel
theorem dL_setFees_19 : decode cL_setFees 19 = .ok (.iconst 1, 1) := by decide +kernel
theorem dL_setFees_20 : decode cL_setFees 20 = .ok (.ireturn, 1) := by decide +kernel
theorem dL_setFees_21 : decode cL_setFees 21 = .ok (.iconst 0, 1) := by decide +kernel
theorem dL_setFees_22 : decode cL_setFees 22 = .ok (.ireturn, 1) := by decide +kernel
theorem dL_right_0 : decode cL_right 0 = .ok (.aload_n 3, 1) := by decide +kernel
theorem dL_right_1 : decode cL_right 1 = .ok (.iconst 0, 1) := by decide +kernel
theorem dL_right_2 : decode cL_right 2 = .ok (.aload_n 0, 1) := by decide +kernel
theorem dL_right_3 : decode cL_right 3 = .ok (.iload_n 1, 1) := by decide +kernel
theorem dL_right_4 : decode cL_right 4 = .ok (.iload_n 2, 1) := by decide +kernel
theorem dL_right_5 : decode cL_right 5 = .ok (.invokevirtual 53, 3) := by decide +kernel
theorem dL_right_8 : decode cL_right 8 = .ok (.i2l, 1) := by decide +kernel
theorem dL_right_9 : decode cL_right 9 = .ok (.lastore, 1) := by decide +kernel
theorem dL_right_10 : decode cL_right 10 = .ok (.goto 11, 3) := by decide +kernel
theorem dL_right_13 : decode cL_right 13 = .ok (.astore 4, 2) := by decide +kernel
theorem dL_right_15 : decode cL_right 15 = .ok (.iconst 1, 1) := by decide +kernel
theorem dL_right_16 : decode cL_right 16 = .ok (.ireturn, 1) := by decide +kernel
theorem dL_right_17 : decode cL_right 17 = .ok (.astore 4, 2) := by decide +kernel
theorem dL_right_19 : decode cL_right 19 = .ok (.iconst 2, 1) := by decide +kernel
theorem dL_right_20 : decode cL_right 20 = .ok (.ireturn, 1) := by decide +kernel
theorem dL_right_21 : decode cL_right 21 = .ok (.iconst 0, 1) := by decide +kernel
theorem dL_right_22 : decode cL_right 22 = .ok (.ireturn, 1) := by decide +kernel
theorem dL_due_0 : decode cL_due 0 = .ok (.aload 4, 2) := by decide +kernel
theorem dL_due_2 : decode cL_due 2 = .ok (.iconst 0, 1) := by decide +kernel
theorem dL_due_3 : decode cL_due 3 = .ok (.aload_n 0, 1) := by decide +kernel
theorem dL_due_4 : decode cL_due 4 = .ok (.iload_n 1, 1) := by decide +kernel
theorem dL_due_5 : decode cL_due 5 = .ok (.iload_n 2, 1) := by decide +kernel
theorem dL_due_6 : decode cL_due 6 = .ok (.iload_n 3, 1) := by decide +kernel
theorem dL_due_7 : decode cL_due 7 = .ok (.invokevirtual 56, 3) := by decide +kernel
theorem dL_due_10 : decode cL_due 10 = .ok (.i2l, 1) := by decide +kernel
theorem dL_due_11 : decode cL_due 11 = .ok (.lastore, 1) := by decide +kernel
theorem dL_due_12 : decode cL_due 12 = .ok (.goto 11, 3) := by decide +kernel
theorem dL_due_15 : decode cL_due 15 = .ok (.astore 5, 2) := by decide +kernel
theorem dL_due_17 : decode cL_due 17 = .ok (.iconst 1, 1) := by decide +kernel
theorem dL_due_18 : decode cL_due 18 = .ok (.ireturn, 1) := by decide +kernel
theorem dL_due_19 : decode cL_due 19 = .ok (.astore 5, 2) := by decide +kernel
theorem dL_due_21 : decode cL_due 21 = .ok (.iconst 2, 1) := by decide +kernel
theorem dL_due_22 : decode cL_due 22 = .ok (.ireturn, 1) := by decide +kernel
theorem dL_due_23 : decode cL_due 23 = .ok (.iconst 0, 1) := by decide +kernel
theorem dL_due_24 : decode cL_due 24 = .ok (.ireturn, 1) := by decide +kernel
theorem dL_stood_0 : decode cL_stood 0 = .ok (.aload_n 3, 1) := by decide +kernel
theorem dL_stood_1 : decode cL_stood 1 = .ok (.iconst 0, 1) := by decide +kernel
theorem dL_stood_2 : decode cL_stood 2 = .ok (.aload_n 0, 1) := by decide +kernel
theorem dL_stood_3 : decode cL_stood 3 = .ok (.iload_n 1, 1) := by decide +kernel
theorem dL_stood_4 : decode cL_stood 4 = .ok (.iload_n 2, 1) := by decide +kernel
theorem dL_stood_5 : decode cL_stood 5 = .ok (.invokevirtual 60, 3) := by decide +kernel
theorem dL_stood_8 : decode cL_stood 8 = .ok (.ifCond .eq 7, 3) := by decide +kernel
theorem dL_stood_11 : decode cL_stood 11 = .ok (.lconst 1, 1) := by decide +kernel
theorem dL_stood_12 : decode cL_stood 12 = .ok (.goto 4, 3) := by decide +kernel
theorem dL_stood_15 : decode cL_stood 15 = .ok (.lconst 0, 1) := by decide +kernel
theorem dL_stood_16 : decode cL_stood 16 = .ok (.lastore, 1) := by decide +kernel
theorem dL_stood_17 : decode cL_stood 17 = .ok (.goto 11, 3) := by decide +kernel
theorem dL_stood_20 : decode cL_stood 20 = .ok (.astore 4, 2) := by decide +kernel
theorem dL_stood_22 : decode cL_stood 22 = .ok (.iconst 1, 1) := by decide +kernel
theorem dL_stood_23 : decode cL_stood 23 = .ok (.ireturn, 1) := by decide +kernel
theorem dL_stood_24 : decode cL_stood 24 = .ok (.astore 4, 2) := by decide +kernel
theorem dL_stood_26 : decode cL_stood 26 = .ok (.iconst 2, 1) := by decide +kernel
theorem dL_stood_27 : decode cL_stood 27 = .ok (.ireturn, 1) := by decide +kernel
theorem dL_stood_28 : decode cL_stood 28 = .ok (.iconst 0, 1) := by decide +kernel
theorem dL_stood_29 : decode cL_stood 29 = .ok (.ireturn, 1) := by decide +kernel
theorem dL_covered_0 : decode cL_covered 0 = .ok (.aload_n 3, 1) := by decide +kernel
theorem dL_covered_1 : decode cL_covered 1 = .ok (.iconst 0, 1) := by decide +kernel
theorem dL_covered_2 : decode cL_covered 2 = .ok (.aload_n 0, 1) := by decide +kernel
theorem dL_covered_3 : decode cL_covered 3 = .ok (.iload_n 1, 1) := by decide +kernel
theorem dL_covered_4 : decode cL_covered 4 = .ok (.iload_n 2, 1) := by decide +kernel
theorem dL_covered_5 : decode cL_covered 5 = .ok (.invokevirtual 64, 3) := by decide +kernel
theorem dL_covered_8 : decode cL_covered 8 = .ok (.ifCond .eq 7, 3) := by decide +kernel
theorem dL_covered_11 : decode cL_covered 11 = .ok (.lconst 1, 1) := by decide +kernel
theorem dL_covered_12 : decode cL_covered 12 = .ok (.goto 4, 3) := by decide +kernel
theorem dL_covered_15 : decode cL_covered 15 = .ok (.lconst 0, 1) := by decide +kernel
theorem dL_covered_16 : decode cL_covered 16 = .ok (.lastore, 1) := by decide +kernel
theorem dL_covered_17 : decode cL_covered 17 = .ok (.goto 11, 3) := by decide +kernel
theorem dL_covered_20 : decode cL_covered 20 = .ok (.astore 4, 2) := by decide +kernel
theorem dL_covered_22 : decode cL_covered 22 = .ok (.iconst 1, 1) := by decide +kernel
theorem dL_covered_23 : decode cL_covered 23 = .ok (.ireturn, 1) := by decide +kernel
theorem dL_covered_24 : decode cL_covered 24 = .ok (.astore 4, 2) := by decide +kernel
theorem dL_covered_26 : decode cL_covered 26 = .ok (.iconst 2, 1) := by decide +kernel
theorem dL_covered_27 : decode cL_covered 27 = .ok (.ireturn, 1) := by decide +kernel
theorem dL_covered_28 : decode cL_covered 28 = .ok (.iconst 0, 1) := by decide +kernel
theorem dL_covered_29 : decode cL_covered 29 = .ok (.ireturn, 1) := by decide +kernel
theorem dL_user_0 : decode cL_user 0 = .ok (.aload_n 3, 1) := by decide +kernel
theorem dL_user_1 : decode cL_user 1 = .ok (.iconst 0, 1) := by decide +kernel
theorem dL_user_2 : decode cL_user 2 = .ok (.aload_n 0, 1) := by decide +kernel
theorem dL_user_3 : decode cL_user 3 = .ok (.iload_n 1, 1) := by decide +kernel
theorem dL_user_4 : decode cL_user 4 = .ok (.iload_n 2, 1) := by decide +kernel
theorem dL_user_5 : decode cL_user 5 = .ok (.invokevirtual 67, 3) := by decide +kernel
theorem dL_user_8 : decode cL_user 8 = .ok (.i2l, 1) := by decide +kernel
theorem dL_user_9 : decode cL_user 9 = .ok (.lastore, 1) := by decide +kernel
theorem dL_user_10 : decode cL_user 10 = .ok (.goto 11, 3) := by decide +kernel
theorem dL_user_13 : decode cL_user 13 = .ok (.astore 4, 2) := by decide +kernel
theorem dL_user_15 : decode cL_user 15 = .ok (.iconst 1, 1) := by decide +kernel
theorem dL_user_16 : decode cL_user 16 = .ok (.ireturn, 1) := by decide +kernel
theorem dL_user_17 : decode cL_user 17 = .ok (.astore 4, 2) := by decide +kernel
theorem dL_user_19 : decode cL_user 19 = .ok (.iconst 2, 1) := by decide +kernel
theorem dL_user_20 : decode cL_user 20 = .ok (.ireturn, 1) := by decide +kernel
theorem dL_user_21 : decode cL_user 21 = .ok (.iconst 0, 1) := by decide +kernel
theorem dL_user_22 : decode cL_user 22 = .ok (.ireturn, 1) := by decide +kernel
theorem dL_value_0 : decode cL_value 0 = .ok (.aload_n 2, 1) := by decide +kernel
theorem dL_value_1 : decode cL_value 1 = .ok (.iconst 0, 1) := by decide +kernel
theorem dL_value_2 : decode cL_value 2 = .ok (.aload_n 0, 1) := by decide +kernel
theorem dL_value_3 : decode cL_value 3 = .ok (.iload_n 1, 1) := by decide +kernel
theorem dL_value_4 : decode cL_value 4 = .ok (.invokevirtual 70, 3) := by decide +kernel
theorem dL_value_7 : decode cL_value 7 = .ok (.i2l, 1) := by decide +kernel
theorem dL_value_8 : decode cL_value 8 = .ok (.lastore, 1) := by decide +kernel
theorem dL_value_9 : decode cL_value 9 = .ok (.goto 6, 3) := by decide +kernel
theorem dL_value_12 : decode cL_value 12 = .ok (.astore_n 3, 1) := by decide +kernel
theorem dL_value_13 : decode cL_value 13 = .ok (.iconst 1, 1) := by decide +kernel
theorem dL_value_14 : decode cL_value 14 = .ok (.ireturn, 1) := by decide +kernel
theorem dL_value_15 : decode cL_value 15 = .ok (.iconst 0, 1) := by decide +kernel
theorem dL_value_16 : decode cL_value 16 = .ok (.ireturn, 1) := by decide +kernel
theorem dL_costs_0 : decode cL_costs 0 = .ok (.aload_n 2, 1) := by decide +kernel
theorem dL_costs_1 : decode cL_costs 1 = .ok (.iconst 0, 1) := by decide +kernel
theorem dL_costs_2 : decode cL_costs 2 = .ok (.aload_n 0, 1) := by decide +kernel
theorem dL_costs_3 : decode cL_costs 3 = .ok (.iload_n 1, 1) := by decide +kernel
theorem dL_costs_4 : decode cL_costs 4 = .ok (.invokevirtual 73, 3) := by decide +kernel
theorem dL_costs_7 : decode cL_costs 7 = .ok (.i2l, 1) := by decide +kernel
theorem dL_costs_8 : decode cL_costs 8 = .ok (.lastore, 1) := by decide +kernel
theorem dL_costs_9 : decode cL_costs 9 = .ok (.goto 6, 3) := by decide +kernel
theorem dL_costs_12 : decode cL_costs 12 = .ok (.astore_n 3, 1) := by decide +kernel
theorem dL_costs_13 : decode cL_costs 13 = .ok (.iconst 1, 1) := by decide +kernel
theorem dL_costs_14 : decode cL_costs 14 = .ok (.ireturn, 1) := by decide +kernel
theorem dL_costs_15 : decode cL_costs 15 = .ok (.iconst 0, 1) := by decide +kernel
theorem dL_costs_16 : decode cL_costs 16 = .ok (.ireturn, 1) := by decide +kernel
theorem dL_lapsing_0 : decode cL_lapsing 0 = .ok (.aload_n 2, 1) := by decide +kernel
theorem dL_lapsing_1 : decode cL_lapsing 1 = .ok (.iconst 0, 1) := by decide +kernel
theorem dL_lapsing_2 : decode cL_lapsing 2 = .ok (.aload_n 0, 1) := by decide +kernel
theorem dL_lapsing_3 : decode cL_lapsing 3 = .ok (.iload_n 1, 1) := by decide +kernel
theorem dL_lapsing_4 : decode cL_lapsing 4 = .ok (.invokevirtual 76, 3) := by decide +kernel
theorem dL_lapsing_7 : decode cL_lapsing 7 = .ok (.i2l, 1) := by decide +kernel
theorem dL_lapsing_8 : decode cL_lapsing 8 = .ok (.lastore, 1) := by decide +kernel
theorem dL_lapsing_9 : decode cL_lapsing 9 = .ok (.goto 6, 3) := by decide +kernel
theorem dL_lapsing_12 : decode cL_lapsing 12 = .ok (.astore_n 3, 1) := by decide +kernel
theorem dL_lapsing_13 : decode cL_lapsing 13 = .ok (.iconst 1, 1) := by decide +kernel
theorem dL_lapsing_14 : decode cL_lapsing 14 = .ok (.ireturn, 1) := by decide +kernel
theorem dL_lapsing_15 : decode cL_lapsing 15 = .ok (.iconst 0, 1) := by decide +kernel
theorem dL_lapsing_16 : decode cL_lapsing 16 = .ok (.ireturn, 1) := by decide +kernel
theorem dL_share_0 : decode cL_share 0 = .ok (.aload_n 2, 1) := by decide +kernel
theorem dL_share_1 : decode cL_share 1 = .ok (.iconst 0, 1) := by decide +kernel
theorem dL_share_2 : decode cL_share 2 = .ok (.aload_n 0, 1) := by decide +kernel
theorem dL_share_3 : decode cL_share 3 = .ok (.iload_n 1, 1) := by decide +kernel
theorem dL_share_4 : decode cL_share 4 = .ok (.invokevirtual 79, 3) := by decide +kernel
theorem dL_share_7 : decode cL_share 7 = .ok (.dastore, 1) := by decide +kernel
theorem dL_share_8 : decode cL_share 8 = .ok (.goto 6, 3) := by decide +kernel
theorem dL_share_11 : decode cL_share 11 = .ok (.astore_n 3, 1) := by decide +kernel
theorem dL_share_12 : decode cL_share 12 = .ok (.iconst 1, 1) := by decide +kernel
theorem dL_share_13 : decode cL_share 13 = .ok (.ireturn, 1) := by decide +kernel
theorem dL_share_14 : decode cL_share 14 = .ok (.iconst 0, 1) := by decide +kernel
theorem dL_share_15 : decode cL_share 15 = .ok (.ireturn, 1) := by decide +kernel
theorem dL_append_0 : decode cL_append 0 = .ok (.aload_n 2, 1) := by decide +kernel
theorem dL_append_1 : decode cL_append 1 = .ok (.iconst 0, 1) := by decide +kernel
theorem dL_append_2 : decode cL_append 2 = .ok (.aload_n 0, 1) := by decide +kernel
theorem dL_append_3 : decode cL_append 3 = .ok (.iload_n 1, 1) := by decide +kernel
theorem dL_append_4 : decode cL_append 4 = .ok (.invokevirtual 83, 3) := by decide +kernel
theorem dL_append_7 : decode cL_append 7 = .ok (.i2l, 1) := by decide +kernel
theorem dL_append_8 : decode cL_append 8 = .ok (.lastore, 1) := by decide +kernel
theorem dL_append_9 : decode cL_append 9 = .ok (.goto 9, 3) := by decide +kernel
theorem dL_append_12 : decode cL_append 12 = .ok (.astore_n 3, 1) := by decide +kernel
theorem dL_append_13 : decode cL_append 13 = .ok (.iconst 1, 1) := by decide +kernel
theorem dL_append_14 : decode cL_append 14 = .ok (.ireturn, 1) := by decide +kernel
theorem dL_append_15 : decode cL_append 15 = .ok (.astore_n 3, 1) := by decide +kernel
theorem dL_append_16 : decode cL_append 16 = .ok (.iconst 2, 1) := by decide +kernel
theorem dL_append_17 : decode cL_append 17 = .ok (.ireturn, 1) := by decide +kernel
theorem dL_append_18 : decode cL_append 18 = .ok (.iconst 0, 1) := by decide +kernel
theorem dL_append_19 : decode cL_append 19 = .ok (.ireturn, 1) := by decide +kernel
theorem dL_undo_0 : decode cL_undo 0 = .ok (.aload_n 1, 1) := by decide +kernel
theorem dL_undo_1 : decode cL_undo 1 = .ok (.iconst 0, 1) := by decide +kernel
theorem dL_undo_2 : decode cL_undo 2 = .ok (.aload_n 0, 1) := by decide +kernel
theorem dL_undo_3 : decode cL_undo 3 = .ok (.invokevirtual 86, 3) := by decide +kernel
theorem dL_undo_6 : decode cL_undo 6 = .ok (.i2l, 1) := by decide +kernel
theorem dL_undo_7 : decode cL_undo 7 = .ok (.lastore, 1) := by decide +kernel
theorem dL_undo_8 : decode cL_undo 8 = .ok (.goto 6, 3) := by decide +kernel
theorem dL_undo_11 : decode cL_undo 11 = .ok (.astore_n 2, 1) := by decide +kernel
theorem dL_undo_12 : decode cL_undo 12 = .ok (.iconst 1, 1) := by decide +kernel
theorem dL_undo_13 : decode cL_undo 13 = .ok (.ireturn, 1) := by decide +kernel
theorem dL_undo_14 : decode cL_undo 14 = .ok (.iconst 0, 1) := by decide +kernel
theorem dL_undo_15 : decode cL_undo 15 = .ok (.ireturn, 1) := by decide +kernel
