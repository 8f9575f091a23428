theorem dX4_init_0 : decode cX4_init 0 = .ok (.aload_n 0, 1) := by decide +kernel
theorem dX4_init_1 : decode cX4_init 1 = .ok (.invokespecial 3, 3) := by decide +kernel
theorem dX4_init_4 : decode cX4_init 4 = .ok (.aload_n 0, 1) := by decide +kernel
theorem dX4_init_5 : decode cX4_init 5 = .ok (.iconst 0, 1) := by decide +kernel
theorem dX4_init_6 : decode cX4_init 6 = .ok (.putfield 9, 3) := by decide +kernel
theorem dX4_init_9 : decode cX4_init 9 = .ok (.aload_n 0, 1) := by decide +kernel
theorem dX4_init_10 : decode cX4_init 10 = .ok (.iconst 0, 1) := by decide +kernel
theorem dX4_init_11 : decode cX4_init 11 = .ok (.putfield 15, 3) := by decide +kernel
theorem dX4_init_14 : decode cX4_init 14 = .ok (.aload_n 0, 1) := by decide +kernel
theorem dX4_init_15 : decode cX4_init 15 = .ok (.iconst 0, 1) := by decide +kernel
theorem dX4_init_16 : decode cX4_init 16 = .ok (.putfield 18, 3) := by decide +kernel
theorem dX4_init_19 : decode cX4_init 19 = .ok (.aload_n 0, 1) := by decide +kernel
theorem dX4_init_20 : decode cX4_init 20 = .ok (.iconst 0, 1) := by decide +kernel
theorem dX4_init_21 : decode cX4_init 21 = .ok (.putfield 21, 3) := by decide +kernel
theorem dX4_init_24 : decode cX4_init 24 = .ok (.aload_n 0, 1) := by decide +kernel
theorem dX4_init_25 : decode cX4_init 25 = .ok (.iconst 0, 1) := by decide +kernel
theorem dX4_init_26 : decode cX4_init 26 = .ok (.putfield 24, 3) := by decide +kernel
theorem dX4_init_29 : decode cX4_init 29 = .ok (.aload_n 0, 1) := by decide +kernel
theorem dX4_init_30 : decode cX4_init 30 = .ok (.bipush 10, 2) := by decide +kernel
theorem dX4_init_32 : decode cX4_init 32 = .ok (.anewarray 27, 3) := by decide +kernel
theorem dX4_init_35 : decode cX4_init 35 = .ok (.putfield 29, 3) := by decide +kernel
theorem dX4_init_38 : decode cX4_init 38 = .ok (.aload_n 0, 1) := by decide +kernel
theorem dX4_init_39 : decode cX4_init 39 = .ok (.new 33, 3) := by decide +kernel
theorem dX4_init_42 : decode cX4_init 42 = .ok (.dup, 1) := by decide +kernel
theorem dX4_init_43 : decode cX4_init 43 = .ok (.invokespecial 35, 3) := by decide +kernel
theorem dX4_init_46 : decode cX4_init 46 = .ok (.putfield 36, 3) := by decide +kernel
theorem dX4_init_49 : decode cX4_init 49 = .ok (.aload_n 0, 1) := by decide +kernel
theorem dX4_init_50 : decode cX4_init 50 = .ok (.new 40, 3) := by decide +kernel
theorem dX4_init_53 : decode cX4_init 53 = .ok (.dup, 1) := by decide +kernel
theorem dX4_init_54 : decode cX4_init 54 = .ok (.invokespecial 42, 3) := by decide +kernel
theorem dX4_init_57 : decode cX4_init 57 = .ok (.putfield 43, 3) := by decide +kernel
theorem dX4_init_60 : decode cX4_init 60 = .ok (.iconst 0, 1) := by decide +kernel
theorem dX4_init_61 : decode cX4_init 61 = .ok (.istore_n 1, 1) := by decide +kernel
theorem dX4_init_62 : decode cX4_init 62 = .ok (.iload_n 1, 1) := by decide +kernel
theorem dX4_init_63 : decode cX4_init 63 = .ok (.aload_n 0, 1) := by decide +kernel
theorem dX4_init_64 : decode cX4_init 64 = .ok (.getfield 29, 3) := by decide +kernel
theorem dX4_init_67 : decode cX4_init 67 = .ok (.arraylength, 1) := by decide +kernel
theorem dX4_init_68 : decode cX4_init 68 = .ok (.if_icmp .ge 22, 3) := by decide +kernel
theorem dX4_init_71 : decode cX4_init 71 = .ok (.aload_n 0, 1) := by decide +kernel
theorem dX4_init_72 : decode cX4_init 72 = .ok (.getfield 29, 3) := by decide +kernel
theorem dX4_init_75 : decode cX4_init 75 = .ok (.iload_n 1, 1) := by decide +kernel
theorem dX4_init_76 : decode cX4_init 76 = .ok (.new 27, 3) := by decide +kernel
theorem dX4_init_79 : decode cX4_init 79 = .ok (.dup, 1) := by decide +kernel
theorem dX4_init_80 : decode cX4_init 80 = .ok (.invokespecial 47, 3) := by decide +kernel
theorem dX4_init_83 : decode cX4_init 83 = .ok (.aastore, 1) := by decide +kernel
theorem dX4_init_84 : decode cX4_init 84 = .ok (.iinc 1 1, 3) := by decide +kernel
theorem dX4_init_87 : decode cX4_init 87 = .ok (.goto (-25), 3) := by decide +kernel
theorem dX4_init_90 : decode cX4_init 90 = .ok (.return_, 1) := by decide +kernel
theorem dX4_copyFrom_0 : decode cX4_copyFrom 0 = .ok (.aload_n 0, 1) := by decide +kernel
theorem dX4_copyFrom_1 : decode cX4_copyFrom 1 = .ok (.aload_n 1, 1) := by decide +kernel
theorem dX4_copyFrom_2 : decode cX4_copyFrom 2 = .ok (.getfield 9, 3) := by decide +kernel
theorem dX4_copyFrom_5 : decode cX4_copyFrom 5 = .ok (.putfield 9, 3) := by decide +kernel
theorem dX4_copyFrom_8 : decode cX4_copyFrom 8 = .ok (.aload_n 0, 1) := by decide +kernel
theorem dX4_copyFrom_9 : decode cX4_copyFrom 9 = .ok (.aload_n 1, 1) := by decide +kernel
theorem dX4_copyFrom_10 : decode cX4_copyFrom 10 = .ok (.getfield 18, 3) := by decide +kernel
theorem dX4_copyFrom_13 : decode cX4_copyFrom 13 = .ok (.putfield 18, 3) := by decide +kernel
theorem dX4_copyFrom_16 : decode cX4_copyFrom 16 = .ok (.aload_n 0, 1) := by decide +kernel
theorem dX4_copyFrom_17 : decode cX4_copyFrom 17 = .ok (.aload_n 1, 1) := by decide +kernel
theorem dX4_copyFrom_18 : decode cX4_copyFrom 18 = .ok (.getfield 21, 3) := by decide +kernel
theorem dX4_copyFrom_21 : decode cX4_copyFrom 21 = .ok (.putfield 21, 3) := by decide +kernel
theorem dX4_copyFrom_24 : decode cX4_copyFrom 24 = .ok (.aload_n 0, 1) := by decide +kernel
theorem dX4_copyFrom_25 : decode cX4_copyFrom 25 = .ok (.aload_n 1, 1) := by decide +kernel
theorem dX4_copyFrom_26 : decode cX4_copyFrom 26 = .ok (.getfield 24, 3) := by decide +kernel
theorem dX4_copyFrom_29 : decode cX4_copyFrom 29 = .ok (.putfield 24, 3) := by decide +kernel
theorem dX4_copyFrom_32 : decode cX4_copyFrom 32 = .ok (.aload_n 0, 1) := by decide +kernel
theorem dX4_copyFrom_33 : decode cX4_copyFrom 33 = .ok (.getfield 36, 3) := by decide +kernel
theorem dX4_copyFrom_36 : decode cX4_copyFrom 36 = .ok (.aload_n 1, 1) := by decide +kernel
theorem dX4_copyFrom_37 : decode cX4_copyFrom 37 = .ok (.getfield 36, 3) := by decide +kernel
theorem dX4_copyFrom_40 : decode cX4_copyFrom 40 = .ok (.invokevirtual 48, 3) := by decide +kernel
theorem dX4_copyFrom_43 : decode cX4_copyFrom 43 = .ok (.aload_n 0, 1) := by decide +kernel
theorem dX4_copyFrom_44 : decode cX4_copyFrom 44 = .ok (.getfield 43, 3) := by decide +kernel
theorem dX4_copyFrom_47 : decode cX4_copyFrom 47 = .ok (.aload_n 1, 1) := by decide +kernel
theorem dX4_copyFrom_48 : decode cX4_copyFrom 48 = .ok (.getfield 43, 3) := by decide +kernel
theorem dX4_copyFrom_51 : decode cX4_copyFrom 51 = .ok (.invokevirtual 52, 3) := by decide +kernel
theorem dX4_copyFrom_54 : decode cX4_copyFrom 54 = .ok (.aload_n 0, 1) := by decide +kernel
theorem dX4_copyFrom_55 : decode cX4_copyFrom 55 = .ok (.aload_n 1, 1) := by decide +kernel
theorem dX4_copyFrom_56 : decode cX4_copyFrom 56 = .ok (.getfield 15, 3) := by decide +kernel
theorem dX4_copyFrom_59 : decode cX4_copyFrom 59 = .ok (.putfield 15, 3) := by decide +kernel
theorem dX4_copyFrom_62 : decode cX4_copyFrom 62 = .ok (.iconst 0, 1) := by decide +kernel
theorem dX4_copyFrom_63 : decode cX4_copyFrom 63 = .ok (.istore_n 2, 1) := by decide +kernel
theorem dX4_copyFrom_64 : decode cX4_copyFrom 64 = .ok (.iload_n 2, 1) := by decide +kernel
theorem dX4_copyFrom_65 : decode cX4_copyFrom 65 = .ok (.aload_n 0, 1) := by decide +kernel
theorem dX4_copyFrom_66 : decode cX4_copyFrom 66 = .ok (.getfield 15, 3) := by decide +kernel
theorem dX4_copyFrom_69 : decode cX4_copyFrom 69 = .ok (.if_icmp .ge 42, 3) := by decide +kernel
theorem dX4_copyFrom_72 : decode cX4_copyFrom 72 = .ok (.iload_n 2, 1) := by decide +kernel
theorem dX4_copyFrom_73 : decode cX4_copyFrom 73 = .ok (.aload_n 0, 1) := by decide +kernel
theorem dX4_copyFrom_74 : decode cX4_copyFrom 74 = .ok (.getfield 29, 3) := by decide +kernel
theorem dX4_copyFrom_77 : decode cX4_copyFrom 77 = .ok (.arraylength, 1) := by decide +kernel
theorem dX4_copyFrom_78 : decode cX4_copyFrom 78 = .ok (.if_icmp .ge 33, 3) := by decide +kernel
theorem dX4_copyFrom_81 : decode cX4_copyFrom 81 = .ok (.iload_n 2, 1) := by decide +kernel
theorem dX4_copyFrom_82 : decode cX4_copyFrom 82 = .ok (.aload_n 1, 1) := by decide +kernel
theorem dX4_copyFrom_83 : decode cX4_copyFrom 83 = .ok (.getfield 29, 3) := by decide +kernel
theorem dX4_copyFrom_86 : decode cX4_copyFrom 86 = .ok (.arraylength, 1) := by decide +kernel
theorem dX4_copyFrom_87 : decode cX4_copyFrom 87 = .ok (.if_icmp .ge 24, 3) := by decide +kernel
theorem dX4_copyFrom_90 : decode cX4_copyFrom 90 = .ok (.aload_n 0, 1) := by decide +kernel
theorem dX4_copyFrom_91 : decode cX4_copyFrom 91 = .ok (.getfield 29, 3) := by decide +kernel
theorem dX4_copyFrom_94 : decode cX4_copyFrom 94 = .ok (.iload_n 2, 1) := by decide +kernel
theorem dX4_copyFrom_95 : decode cX4_copyFrom 95 = .ok (.aaload, 1) := by decide +kernel
theorem dX4_copyFrom_96 : decode cX4_copyFrom 96 = .ok (.aload_n 1, 1) := by decide +kernel
theorem dX4_copyFrom_97 : decode cX4_copyFrom 97 = .ok (.getfield 29, 3) := by decide +kernel
theorem dX4_copyFrom_100 : decode cX4_copyFrom 100 = .ok (.iload_n 2, 1) := by decide +kernel
theorem dX4_copyFrom_101 : decode cX4_copyFrom 101 = .ok (.aaload, 1) := by decide +kernel
theorem dX4_copyFrom_102 : decode cX4_copyFrom 102 = .ok (.invokevirtual 55, 3) := by decide +kernel
theorem dX4_copyFrom_105 : decode cX4_copyFrom 105 = .ok (.iinc 2 1, 3) := by decide +kernel
theorem dX4_copyFrom_108 : decode cX4_copyFrom 108 = .ok (.goto (-44), 3) := by decide +kernel
theorem dX4_copyFrom_111 : decode cX4_copyFrom 111 = .ok (.return_, 1) := by decide +kernel
theorem dX4_addRight_0 : decode cX4_addRight 0 = .ok (.aload_n 0, 1) := by decide +kernel
theorem dX4_addRight_1 : decode cX4_addRight 1 = .ok (.getfield 15, 3) := by decide +kernel
theorem dX4_addRight_4 : decode cX4_addRight 4 = .ok (.ifCond .lt 43, 3) := by decide +kernel
theorem dX4_addRight_7 : decode cX4_addRight 7 = .ok (.aload_n 0, 1) := by decide +kernel
theorem dX4_addRight_8 : decode cX4_addRight 8 = .ok (.getfield 15, 3) := by decide +kernel
theorem dX4_addRight_11 : decode cX4_addRight 11 = .ok (.aload_n 0, 1) := by decide +kernel
theorem dX4_addRight_12 : decode cX4_addRight 12 = .ok (.getfield 29, 3) := by decide +kernel
theorem dX4_addRight_15 : decode cX4_addRight 15 = .ok (.arraylength, 1) := by decide +kernel
theorem dX4_addRight_16 : decode cX4_addRight 16 = .ok (.if_icmp .ge 31, 3) := by decide +kernel
theorem dX4_addRight_19 : decode cX4_addRight 19 = .ok (.aload_n 0, 1) := by decide +kernel
theorem dX4_addRight_20 : decode cX4_addRight 20 = .ok (.getfield 29, 3) := by decide +kernel
theorem dX4_addRight_23 : decode cX4_addRight 23 = .ok (.aload_n 0, 1) := by decide +kernel
theorem dX4_addRight_24 : decode cX4_addRight 24 = .ok (.getfield 15, 3) := by decide +kernel
theorem dX4_addRight_27 : decode cX4_addRight 27 = .ok (.aaload, 1) := by decide +kernel
theorem dX4_addRight_28 : decode cX4_addRight 28 = .ok (.iload_n 1, 1) := by decide +kernel
theorem dX4_addRight_29 : decode cX4_addRight 29 = .ok (.iload_n 2, 1) := by decide +kernel
theorem dX4_addRight_30 : decode cX4_addRight 30 = .ok (.aload_n 0, 1) := by decide +kernel
theorem dX4_addRight_31 : decode cX4_addRight 31 = .ok (.getfield 36, 3) := by decide +kernel
theorem dX4_addRight_34 : decode cX4_addRight 34 = .ok (.invokevirtual 58, 3) := by decide +kernel
theorem dX4_addRight_37 : decode cX4_addRight 37 = .ok (.aload_n 0, 1) := by decide +kernel
theorem dX4_addRight_38 : decode cX4_addRight 38 = .ok (.dup, 1) := by decide +kernel
theorem dX4_addRight_39 : decode cX4_addRight 39 = .ok (.getfield 15, 3) := by decide +kernel
theorem dX4_addRight_42 : decode cX4_addRight 42 = .ok (.iconst 1, 1) := by decide +kernel
theorem dX4_addRight_43 : decode cX4_addRight 43 = .ok (.iadd, 1) := by decide +kernel
theorem dX4_addRight_44 : decode cX4_addRight 44 = .ok (.putfield 15, 3) := by decide +kernel
theorem dX4_addRight_47 : decode cX4_addRight 47 = .ok (.return_, 1) := by decide +kernel
theorem dX4_takeRights_0 : decode cX4_takeRights 0 = .ok (.aload_n 0, 1) := by decide +kernel
theorem dX4_takeRights_1 : decode cX4_takeRights 1 = .ok (.iconst 0, 1) := by decide +kernel
theorem dX4_takeRights_2 : decode cX4_takeRights 2 = .ok (.putfield 18, 3) := by decide +kernel
theorem dX4_takeRights_5 : decode cX4_takeRights 5 = .ok (.aload_n 0, 1) := by decide +kernel
theorem dX4_takeRights_6 : decode cX4_takeRights 6 = .ok (.iconst 0, 1) := by decide +kernel
theorem dX4_takeRights_7 : decode cX4_takeRights 7 = .ok (.putfield 21, 3) := by decide +kernel
theorem dX4_takeRights_10 : decode cX4_takeRights 10 = .ok (.aload_n 0, 1) := by decide +kernel
theorem dX4_takeRights_11 : decode cX4_takeRights 11 = .ok (.iconst 0, 1) := by decide +kernel
theorem dX4_takeRights_12 : decode cX4_takeRights 12 = .ok (.putfield 24, 3) := by decide +kernel
theorem dX4_takeRights_15 : decode cX4_takeRights 15 = .ok (.aload_n 0, 1) := by decide +kernel
theorem dX4_takeRights_16 : decode cX4_takeRights 16 = .ok (.iconst 0, 1) := by decide +kernel
theorem dX4_takeRights_17 : decode cX4_takeRights 17 = .ok (.putfield 15, 3) := by decide +kernel
theorem dX4_takeRights_20 : decode cX4_takeRights 20 = .ok (.iconst 0, 1) := by decide +kernel
theorem dX4_takeRights_21 : decode cX4_takeRights 21 = .ok (.istore_n 2, 1) := by decide +kernel
theorem dX4_takeRights_22 : decode cX4_takeRights 22 = .ok (.iconst 0, 1) := by decide +kernel
theorem dX4_takeRights_23 : decode cX4_takeRights 23 = .ok (.istore_n 3, 1) := by decide +kernel
theorem dX4_takeRights_24 : decode cX4_takeRights 24 = .ok (.iload_n 3, 1) := by decide +kernel
theorem dX4_takeRights_25 : decode cX4_takeRights 25 = .ok (.aload_n 1, 1) := by decide +kernel
theorem dX4_takeRights_26 : decode cX4_takeRights 26 = .ok (.getfield 62, 3) := by decide +kernel
theorem dX4_takeRights_29 : decode cX4_takeRights 29 = .ok (.if_icmp .ge 54, 3) := by decide +kernel
theorem dX4_takeRights_32 : decode cX4_takeRights 32 = .ok (.iload_n 3, 1) := by decide +kernel
theorem dX4_takeRights_33 : decode cX4_takeRights 33 = .ok (.aload_n 1, 1) := by decide +kernel
theorem dX4_takeRights_34 : decode cX4_takeRights 34 = .ok (.getfield 65, 3) := by decide +kernel
theorem dX4_takeRights_37 : decode cX4_takeRights 37 = .ok (.arraylength, 1) := by decide +kernel
theorem dX4_takeRights_38 : decode cX4_takeRights 38 = .ok (.if_icmp .ge 45, 3) := by decide +kernel
theorem dX4_takeRights_41 : decode cX4_takeRights 41 = .ok (.iload_n 3, 1) := by decide +kernel
theorem dX4_takeRights_42 : decode cX4_takeRights 42 = .ok (.aload_n 1, 1) := by decide +kernel
theorem dX4_takeRights_43 : decode cX4_takeRights 43 = .ok (.getfield 69, 3) := by decide +kernel
theorem dX4_takeRights_46 : decode cX4_takeRights 46 = .ok (.arraylength, 1) := by decide +kernel
theorem dX4_takeRights_47 : decode cX4_takeRights 47 = .ok (.if_icmp .ge 36, 3) := by decide +kernel
theorem dX4_takeRights_50 : decode cX4_takeRights 50 = .ok (.aload_n 0, 1) := by decide +kernel
theorem dX4_takeRights_51 : decode cX4_takeRights 51 = .ok (.aload_n 1, 1) := by decide +kernel
theorem dX4_takeRights_52 : decode cX4_takeRights 52 = .ok (.getfield 65, 3) := by decide +kernel
theorem dX4_takeRights_55 : decode cX4_takeRights 55 = .ok (.iload_n 3, 1) := by decide +kernel
theorem dX4_takeRights_56 : decode cX4_takeRights 56 = .ok (.iaload, 1) := by decide +kernel
theorem dX4_takeRights_57 : decode cX4_takeRights 57 = .ok (.aload_n 1, 1) := by decide +kernel
theorem dX4_takeRights_58 : decode cX4_takeRights 58 = .ok (.getfield 69, 3) := by decide +kernel
theorem dX4_takeRights_61 : decode cX4_takeRights 61 = .ok (.iload_n 3, 1) := by decide +kernel
theorem dX4_takeRights_62 : decode cX4_takeRights 62 = .ok (.baload, 1) := by decide +kernel
theorem dX4_takeRights_63 : decode cX4_takeRights 63 = .ok (.invokevirtual 73, 3) := by decide +kernel
theorem dX4_takeRights_66 : decode cX4_takeRights 66 = .ok (.iload_n 2, 1) := by decide +kernel
theorem dX4_takeRights_67 : decode cX4_takeRights 67 = .ok (.aload_n 1, 1) := by decide +kernel
theorem dX4_takeRights_68 : decode cX4_takeRights 68 = .ok (.getfield 65, 3) := by decide +kernel
theorem dX4_takeRights_71 : decode cX4_takeRights 71 = .ok (.iload_n 3, 1) := by decide +kernel
theorem dX4_takeRights_72 : decode cX4_takeRights 72 = .ok (.iaload, 1) := by decide +kernel
theorem dX4_takeRights_73 : decode cX4_takeRights 73 = .ok (.invokestatic 77, 3) := by decide +kernel
theorem dX4_takeRights_76 : decode cX4_takeRights 76 = .ok (.istore_n 2, 1) := by decide +kernel
theorem dX4_takeRights_77 : decode cX4_takeRights 77 = .ok (.iinc 3 1, 3) := by decide +kernel
theorem dX4_takeRights_80 : decode cX4_takeRights 80 = .ok (.goto (-56), 3) := by decide +kernel
theorem dX4_takeRights_83 : decode cX4_takeRights 83 = .ok (.aload_n 0, 1) := by decide +kernel
theorem dX4_takeRights_84 : decode cX4_takeRights 84 = .ok (.getfield 15, 3) := by decide +kernel
theorem dX4_takeRights_87 : decode cX4_takeRights 87 = .ok (.ifCond .le 8, 3) := by decide +kernel
theorem dX4_takeRights_90 : decode cX4_takeRights 90 = .ok (.aload_n 0, 1) := by decide +kernel
theorem dX4_takeRights_91 : decode cX4_takeRights 91 = .ok (.iload_n 2, 1) := by decide +kernel
theorem dX4_takeRights_92 : decode cX4_takeRights 92 = .ok (.putfield 9, 3) := by decide +kernel
theorem dX4_takeRights_95 : decode cX4_takeRights 95 = .ok (.return_, 1) := by decide +kernel
theorem dX4_lapsesWithin_0 : decode cX4_lapsesWithin 0 = .ok (.iconst 0, 1) := by decide +kernel
theorem dX4_lapsesWithin_1 : decode cX4_lapsesWithin 1 = .ok (.istore_n 2, 1) := by decide +kernel
theorem dX4_lapsesWithin_2 : decode cX4_lapsesWithin 2 = .ok (.iconst 0, 1) := by decide +kernel
theorem dX4_lapsesWithin_3 : decode cX4_lapsesWithin 3 = .ok (.istore_n 3, 1) := by decide +kernel
theorem dX4_lapsesWithin_4 : decode cX4_lapsesWithin 4 = .ok (.iload_n 3, 1) := by decide +kernel
theorem dX4_lapsesWithin_5 : decode cX4_lapsesWithin 5 = .ok (.aload_n 0, 1) := by decide +kernel
theorem dX4_lapsesWithin_6 : decode cX4_lapsesWithin 6 = .ok (.getfield 15, 3) := by decide +kernel
theorem dX4_lapsesWithin_9 : decode cX4_lapsesWithin 9 = .ok (.if_icmp .ge 55, 3) := by decide +kernel
theorem dX4_lapsesWithin_12 : decode cX4_lapsesWithin 12 = .ok (.iload_n 3, 1) := by decide +kernel
theorem dX4_lapsesWithin_13 : decode cX4_lapsesWithin 13 = .ok (.aload_n 0, 1) := by decide +kernel
theorem dX4_lapsesWithin_14 : decode cX4_lapsesWithin 14 = .ok (.getfield 29, 3) := by decide +kernel
theorem dX4_lapsesWithin_17 : decode cX4_lapsesWithin 17 = .ok (.arraylength, 1) := by decide +kernel
theorem dX4_lapsesWithin_18 : decode cX4_lapsesWithin 18 = .ok (.if_icmp .ge 46, 3) := by decide +kernel
theorem dX4_lapsesWithin_21 : decode cX4_lapsesWithin 21 = .ok (.aload_n 0, 1) := by decide +kernel
theorem dX4_lapsesWithin_22 : decode cX4_lapsesWithin 22 = .ok (.getfield 29, 3) := by decide +kernel
theorem dX4_lapsesWithin_25 : decode cX4_lapsesWithin 25 = .ok (.iload_n 3, 1) := by decide +kernel
theorem dX4_lapsesWithin_26 : decode cX4_lapsesWithin 26 = .ok (.aaload, 1) := by decide +kernel
theorem dX4_lapsesWithin_27 : decode cX4_lapsesWithin 27 = .ok (.aload_n 0, 1) := by decide +kernel
theorem dX4_lapsesWithin_28 : decode cX4_lapsesWithin 28 = .ok (.getfield 9, 3) := by decide +kernel
theorem dX4_lapsesWithin_31 : decode cX4_lapsesWithin 31 = .ok (.invokevirtual 83, 3) := by decide +kernel
theorem dX4_lapsesWithin_34 : decode cX4_lapsesWithin 34 = .ok (.ifCond .ne 24, 3) := by decide +kernel
theorem dX4_lapsesWithin_37 : decode cX4_lapsesWithin 37 = .ok (.aload_n 0, 1) := by decide +kernel
theorem dX4_lapsesWithin_38 : decode cX4_lapsesWithin 38 = .ok (.getfield 29, 3) := by decide +kernel
theorem dX4_lapsesWithin_41 : decode cX4_lapsesWithin 41 = .ok (.iload_n 3, 1) := by decide +kernel
theorem dX4_lapsesWithin_42 : decode cX4_lapsesWithin 42 = .ok (.aaload, 1) := by decide +kernel
theorem dX4_lapsesWithin_43 : decode cX4_lapsesWithin 43 = .ok (.aload_n 0, 1) := by decide +kernel
theorem dX4_lapsesWithin_44 : decode cX4_lapsesWithin 44 = .ok (.getfield 9, 3) := by decide +kernel
theorem dX4_lapsesWithin_47 : decode cX4_lapsesWithin 47 = .ok (.iload_n 1, 1) := by decide +kernel
theorem dX4_lapsesWithin_48 : decode cX4_lapsesWithin 48 = .ok (.iadd, 1) := by decide +kernel
theorem dX4_lapsesWithin_49 : decode cX4_lapsesWithin 49 = .ok (.invokevirtual 83, 3) := by decide +kernel
theorem dX4_lapsesWithin_52 : decode cX4_lapsesWithin 52 = .ok (.ifCond .eq 6, 3) := by decide +kernel
theorem dX4_lapsesWithin_55 : decode cX4_lapsesWithin 55 = .ok (.iinc 2 1, 3) := by decide +kernel
theorem dX4_lapsesWithin_58 : decode cX4_lapsesWithin 58 = .ok (.iinc 3 1, 3) := by decide +kernel
theorem dX4_lapsesWithin_61 : decode cX4_lapsesWithin 61 = .ok (.goto (-57), 3) := by decide +kernel
theorem dX4_lapsesWithin_64 : decode cX4_lapsesWithin 64 = .ok (.iload_n 2, 1) := by decide +kernel
theorem dX4_lapsesWithin_65 : decode cX4_lapsesWithin 65 = .ok (.ireturn, 1) := by decide +kernel
theorem dX4_canPay_0 : decode cX4_canPay 0 = .ok (.aload_n 1, 1) := by decide +kernel
theorem dX4_canPay_1 : decode cX4_canPay 1 = .ok (.invokevirtual 87, 3) := by decide +kernel
theorem dX4_canPay_4 : decode cX4_canPay 4 = .ok (.istore_n 2, 1) := by decide +kernel
theorem dX4_canPay_5 : decode cX4_canPay 5 = .ok (.iload_n 2, 1) := by decide +kernel
theorem dX4_canPay_6 : decode cX4_canPay 6 = .ok (.iconst (-1), 1) := by decide +kernel
theorem dX4_canPay_7 : decode cX4_canPay 7 = .ok (.if_icmp .eq 33, 3) := by decide +kernel
theorem dX4_canPay_10 : decode cX4_canPay 10 = .ok (.aload_n 1, 1) := by decide +kernel
theorem dX4_canPay_11 : decode cX4_canPay 11 = .ok (.aload_n 0, 1) := by decide +kernel
theorem dX4_canPay_12 : decode cX4_canPay 12 = .ok (.getfield 9, 3) := by decide +kernel
theorem dX4_canPay_15 : decode cX4_canPay 15 = .ok (.invokevirtual 83, 3) := by decide +kernel
theorem dX4_canPay_18 : decode cX4_canPay 18 = .ok (.ifCond .ne 22, 3) := by decide +kernel
theorem dX4_canPay_21 : decode cX4_canPay 21 = .ok (.aload_n 0, 1) := by decide +kernel
theorem dX4_canPay_22 : decode cX4_canPay 22 = .ok (.getfield 9, 3) := by decide +kernel
theorem dX4_canPay_25 : decode cX4_canPay 25 = .ok (.aload_n 1, 1) := by decide +kernel
theorem dX4_canPay_26 : decode cX4_canPay 26 = .ok (.iload_n 2, 1) := by decide +kernel
theorem dX4_canPay_27 : decode cX4_canPay 27 = .ok (.invokevirtual 91, 3) := by decide +kernel
theorem dX4_canPay_30 : decode cX4_canPay 30 = .ok (.bipush 90, 2) := by decide +kernel
theorem dX4_canPay_32 : decode cX4_canPay 32 = .ok (.isub, 1) := by decide +kernel
theorem dX4_canPay_33 : decode cX4_canPay 33 = .ok (.if_icmp .lt 7, 3) := by decide +kernel
theorem dX4_canPay_36 : decode cX4_canPay 36 = .ok (.iconst 1, 1) := by decide +kernel
theorem dX4_canPay_37 : decode cX4_canPay 37 = .ok (.goto 4, 3) := by decide +kernel
theorem dX4_canPay_40 : decode cX4_canPay 40 = .ok (.iconst 0, 1) := by decide +kernel
theorem dX4_canPay_41 : decode cX4_canPay 41 = .ok (.ireturn, 1) := by decide +kernel
theorem dX4_canRevive_0 : decode cX4_canRevive 0 = .ok (.aload_n 1, 1) := by decide +kernel
theorem dX4_canRevive_1 : decode cX4_canRevive 1 = .ok (.aload_n 0, 1) := by decide +kernel
theorem dX4_canRevive_2 : decode cX4_canRevive 2 = .ok (.getfield 9, 3) := by decide +kernel
theorem dX4_canRevive_5 : decode cX4_canRevive 5 = .ok (.invokevirtual 83, 3) := by decide +kernel
theorem dX4_canRevive_8 : decode cX4_canRevive 8 = .ok (.ifCond .eq 14, 3) := by decide +kernel
theorem dX4_canRevive_11 : decode cX4_canRevive 11 = .ok (.aload_n 0, 1) := by decide +kernel
theorem dX4_canRevive_12 : decode cX4_canRevive 12 = .ok (.getfield 9, 3) := by decide +kernel
theorem dX4_canRevive_15 : decode cX4_canRevive 15 = .ok (.aload_n 1, 1) := by decide +kernel
theorem dX4_canRevive_16 : decode cX4_canRevive 16 = .ok (.getfield 95, 3) := by decide +kernel
theorem dX4_canRevive_19 : decode cX4_canRevive 19 = .ok (.if_icmp .le 5, 3) := by decide +kernel
theorem dX4_canRevive_22 : decode cX4_canRevive 22 = .ok (.iconst 0, 1) := by decide +kernel
theorem dX4_canRevive_23 : decode cX4_canRevive 23 = .ok (.ireturn, 1) := by decide +kernel
theorem dX4_canRevive_24 : decode cX4_canRevive 24 = .ok (.aload_n 1, 1) := by decide +kernel
theorem dX4_canRevive_25 : decode cX4_canRevive 25 = .ok (.aload_n 1, 1) := by decide +kernel
theorem dX4_canRevive_26 : decode cX4_canRevive 26 = .ok (.invokevirtual 87, 3) := by decide +kernel
theorem dX4_canRevive_29 : decode cX4_canRevive 29 = .ok (.invokevirtual 98, 3) := by decide +kernel
theorem dX4_canRevive_32 : decode cX4_canRevive 32 = .ok (.bipush 12, 2) := by decide +kernel
theorem dX4_canRevive_34 : decode cX4_canRevive 34 = .ok (.invokestatic 101, 3) := by decide +kernel
theorem dX4_canRevive_37 : decode cX4_canRevive 37 = .ok (.istore_n 2, 1) := by decide +kernel
theorem dX4_canRevive_38 : decode cX4_canRevive 38 = .ok (.aload_n 0, 1) := by decide +kernel
theorem dX4_canRevive_39 : decode cX4_canRevive 39 = .ok (.getfield 9, 3) := by decide +kernel
theorem dX4_canRevive_42 : decode cX4_canRevive 42 = .ok (.aload_n 0, 1) := by decide +kernel
theorem dX4_canRevive_43 : decode cX4_canRevive 43 = .ok (.getfield 36, 3) := by decide +kernel
theorem dX4_canRevive_46 : decode cX4_canRevive 46 = .ok (.iload_n 2, 1) := by decide +kernel
theorem dX4_canRevive_47 : decode cX4_canRevive 47 = .ok (.invokevirtual 106, 3) := by decide +kernel
theorem dX4_canRevive_50 : decode cX4_canRevive 50 = .ok (.if_icmp .gt 7, 3) := by decide +kernel
theorem dX4_canRevive_53 : decode cX4_canRevive 53 = .ok (.iconst 1, 1) := by decide +kernel
theorem dX4_canRevive_54 : decode cX4_canRevive 54 = .ok (.goto 4, 3) := by decide +kernel
theorem dX4_canRevive_57 : decode cX4_canRevive 57 = .ok (.iconst 0, 1) := by decide +kernel
theorem dX4_canRevive_58 : decode cX4_canRevive 58 = .ok (.ireturn, 1) := by decide +kernel
theorem dX4_canUse_0 : decode cX4_canUse 0 = .ok (.aload_n 1, 1) := by decide +kernel
theorem dX4_canUse_1 : decode cX4_canUse 1 = .ok (.aload_n 0, 1) := by decide +kernel
theorem dX4_canUse_2 : decode cX4_canUse 2 = .ok (.getfield 9, 3) := by decide +kernel
theorem dX4_canUse_5 : decode cX4_canUse 5 = .ok (.aload_n 0, 1) := by decide +kernel
theorem dX4_canUse_6 : decode cX4_canUse 6 = .ok (.getfield 9, 3) := by decide +kernel
theorem dX4_canUse_9 : decode cX4_canUse 9 = .ok (.invokevirtual 109, 3) := by decide +kernel
theorem dX4_canUse_12 : decode cX4_canUse 12 = .ok (.ifCond .ne 26, 3) := by decide +kernel
theorem dX4_canUse_15 : decode cX4_canUse 15 = .ok (.aload_n 0, 1) := by decide +kernel
theorem dX4_canUse_16 : decode cX4_canUse 16 = .ok (.getfield 9, 3) := by decide +kernel
theorem dX4_canUse_19 : decode cX4_canUse 19 = .ok (.aload_n 1, 1) := by decide +kernel
theorem dX4_canUse_20 : decode cX4_canUse 20 = .ok (.getfield 95, 3) := by decide +kernel
theorem dX4_canUse_23 : decode cX4_canUse 23 = .ok (.if_icmp .gt 15, 3) := by decide +kernel
theorem dX4_canUse_26 : decode cX4_canUse 26 = .ok (.aload_n 1, 1) := by decide +kernel
theorem dX4_canUse_27 : decode cX4_canUse 27 = .ok (.iload_n 2, 1) := by decide +kernel
theorem dX4_canUse_28 : decode cX4_canUse 28 = .ok (.invokevirtual 113, 3) := by decide +kernel
theorem dX4_canUse_31 : decode cX4_canUse 31 = .ok (.ifCond .ne 7, 3) := by decide +kernel
theorem dX4_canUse_34 : decode cX4_canUse 34 = .ok (.iconst 1, 1) := by decide +kernel
theorem dX4_canUse_35 : decode cX4_canUse 35 = .ok (.goto 4, 3) := by decide +kernel
theorem dX4_canUse_38 : decode cX4_canUse 38 = .ok (.iconst 0, 1) := by decide +kernel
theorem dX4_canUse_39 : decode cX4_canUse 39 = .ok (.ireturn, 1) := by decide +kernel
theorem dX4_surchargeToday_0 : decode cX4_surchargeToday 0 = .ok (.aload_n 0, 1) := by decide +kernel
theorem dX4_surchargeToday_1 : decode cX4_surchargeToday 1 = .ok (.getfield 9, 3) := by decide +kernel
theorem dX4_surchargeToday_4 : decode cX4_surchargeToday 4 = .ok (.aload_n 1, 1) := by decide +kernel
theorem dX4_surchargeToday_5 : decode cX4_surchargeToday 5 = .ok (.iload_n 2, 1) := by decide +kernel
theorem dX4_surchargeToday_6 : decode cX4_surchargeToday 6 = .ok (.invokevirtual 91, 3) := by decide +kernel
theorem dX4_surchargeToday_9 : decode cX4_surchargeToday 9 = .ok (.if_icmp .le 25, 3) := by decide +kernel
theorem dX4_surchargeToday_12 : decode cX4_surchargeToday 12 = .ok (.aload_n 0, 1) := by decide +kernel
theorem dX4_surchargeToday_13 : decode cX4_surchargeToday 13 = .ok (.getfield 43, 3) := by decide +kernel
theorem dX4_surchargeToday_16 : decode cX4_surchargeToday 16 = .ok (.aload_n 0, 1) := by decide +kernel
theorem dX4_surchargeToday_17 : decode cX4_surchargeToday 17 = .ok (.getfield 43, 3) := by decide +kernel
theorem dX4_surchargeToday_20 : decode cX4_surchargeToday 20 = .ok (.iload_n 2, 1) := by decide +kernel
theorem dX4_surchargeToday_21 : decode cX4_surchargeToday 21 = .ok (.aload_n 1, 1) := by decide +kernel
theorem dX4_surchargeToday_22 : decode cX4_surchargeToday 22 = .ok (.getfield 116, 3) := by decide +kernel
theorem dX4_surchargeToday_25 : decode cX4_surchargeToday 25 = .ok (.invokevirtual 119, 3) := by decide +kernel
theorem dX4_surchargeToday_28 : decode cX4_surchargeToday 28 = .ok (.invokevirtual 123, 3) := by decide +kernel
theorem dX4_surchargeToday_31 : decode cX4_surchargeToday 31 = .ok (.goto 4, 3) := by decide +kernel
theorem dX4_surchargeToday_34 : decode cX4_surchargeToday 34 = .ok (.iconst 0, 1) := by decide +kernel
theorem dX4_surchargeToday_35 : decode cX4_surchargeToday 35 = .ok (.ireturn, 1) := by decide +kernel
theorem dX4_priceToday_0 : decode cX4_priceToday 0 = .ok (.iload_n 2, 1) := by decide +kernel
theorem dX4_priceToday_1 : decode cX4_priceToday 1 = .ok (.iconst (-1), 1) := by decide +kernel
theorem dX4_priceToday_2 : decode cX4_priceToday 2 = .ok (.if_icmp .ne 7, 3) := by decide +kernel
theorem dX4_priceToday_5 : decode cX4_priceToday 5 = .ok (.iconst 0, 1) := by decide +kernel
theorem dX4_priceToday_6 : decode cX4_priceToday 6 = .ok (.goto 22, 3) := by decide +kernel
theorem dX4_priceToday_9 : decode cX4_priceToday 9 = .ok (.aload_n 0, 1) := by decide +kernel
theorem dX4_priceToday_10 : decode cX4_priceToday 10 = .ok (.getfield 43, 3) := by decide +kernel
theorem dX4_priceToday_13 : decode cX4_priceToday 13 = .ok (.iload_n 2, 1) := by decide +kernel
theorem dX4_priceToday_14 : decode cX4_priceToday 14 = .ok (.aload_n 1, 1) := by decide +kernel
theorem dX4_priceToday_15 : decode cX4_priceToday 15 = .ok (.getfield 116, 3) := by decide +kernel
theorem dX4_priceToday_18 : decode cX4_priceToday 18 = .ok (.invokevirtual 119, 3) := by decide +kernel
theorem dX4_priceToday_21 : decode cX4_priceToday 21 = .ok (.aload_n 0, 1) := by decide +kernel
theorem dX4_priceToday_22 : decode cX4_priceToday 22 = .ok (.aload_n 1, 1) := by decide +kernel
theorem dX4_priceToday_23 : decode cX4_priceToday 23 = .ok (.iload_n 2, 1) := by decide +kernel
theorem dX4_priceToday_24 : decode cX4_priceToday 24 = .ok (.invokevirtual 126, 3) := by decide +kernel
theorem dX4_priceToday_27 : decode cX4_priceToday 27 = .ok (.iadd, 1) := by decide +kernel
theorem dX4_priceToday_28 : decode cX4_priceToday 28 = .ok (.ireturn, 1) := by decide +kernel
theorem dX4_payNextFee_0 : decode cX4_payNextFee 0 = .ok (.aload_n 1, 1) := by decide +kernel
theorem dX4_payNextFee_1 : decode cX4_payNextFee 1 = .ok (.invokevirtual 87, 3) := by decide +kernel
theorem dX4_payNextFee_4 : decode cX4_payNextFee 4 = .ok (.istore_n 2, 1) := by decide +kernel
theorem dX4_payNextFee_5 : decode cX4_payNextFee 5 = .ok (.aload_n 0, 1) := by decide +kernel
theorem dX4_payNextFee_6 : decode cX4_payNextFee 6 = .ok (.aload_n 1, 1) := by decide +kernel
theorem dX4_payNextFee_7 : decode cX4_payNextFee 7 = .ok (.iload_n 2, 1) := by decide +kernel
theorem dX4_payNextFee_8 : decode cX4_payNextFee 8 = .ok (.invokevirtual 130, 3) := by decide +kernel
theorem dX4_payNextFee_11 : decode cX4_payNextFee 11 = .ok (.istore_n 3, 1) := by decide +kernel
theorem dX4_payNextFee_12 : decode cX4_payNextFee 12 = .ok (.aload_n 0, 1) := by decide +kernel
theorem dX4_payNextFee_13 : decode cX4_payNextFee 13 = .ok (.dup, 1) := by decide +kernel
theorem dX4_payNextFee_14 : decode cX4_payNextFee 14 = .ok (.getfield 18, 3) := by decide +kernel
theorem dX4_payNextFee_17 : decode cX4_payNextFee 17 = .ok (.iload_n 3, 1) := by decide +kernel
theorem dX4_payNextFee_18 : decode cX4_payNextFee 18 = .ok (.iadd, 1) := by decide +kernel
theorem dX4_payNextFee_19 : decode cX4_payNextFee 19 = .ok (.putfield 18, 3) := by decide +kernel
theorem dX4_payNextFee_22 : decode cX4_payNextFee 22 = .ok (.aload_n 0, 1) := by decide +kernel
theorem dX4_payNextFee_23 : decode cX4_payNextFee 23 = .ok (.dup, 1) := by decide +kernel
theorem dX4_payNextFee_24 : decode cX4_payNextFee 24 = .ok (.getfield 21, 3) := by decide +kernel
theorem dX4_payNextFee_27 : decode cX4_payNextFee 27 = .ok (.aload_n 0, 1) := by decide +kernel
theorem dX4_payNextFee_28 : decode cX4_payNextFee 28 = .ok (.aload_n 1, 1) := by decide +kernel
theorem dX4_payNextFee_29 : decode cX4_payNextFee 29 = .ok (.iload_n 2, 1) := by decide +kernel
theorem dX4_payNextFee_30 : decode cX4_payNextFee 30 = .ok (.invokevirtual 126, 3) := by decide +kernel
theorem dX4_payNextFee_33 : decode cX4_payNextFee 33 = .ok (.iadd, 1) := by decide +kernel
theorem dX4_payNextFee_34 : decode cX4_payNextFee 34 = .ok (.putfield 21, 3) := by decide +kernel
theorem dX4_payNextFee_37 : decode cX4_payNextFee 37 = .ok (.aload_n 1, 1) := by decide +kernel
theorem dX4_payNextFee_38 : decode cX4_payNextFee 38 = .ok (.iload_n 3, 1) := by decide +kernel
theorem dX4_payNextFee_39 : decode cX4_payNextFee 39 = .ok (.aload_n 0, 1) := by decide +kernel
theorem dX4_payNextFee_40 : decode cX4_payNextFee 40 = .ok (.getfield 9, 3) := by decide +kernel
theorem dX4_payNextFee_43 : decode cX4_payNextFee 43 = .ok (.invokevirtual 133, 3) := by decide +kernel
theorem dX4_payNextFee_46 : decode cX4_payNextFee 46 = .ok (.iload_n 3, 1) := by decide +kernel
theorem dX4_payNextFee_47 : decode cX4_payNextFee 47 = .ok (.ireturn, 1) := by decide +kernel
theorem dX4_payAllFees_0 : decode cX4_payAllFees 0 = .ok (.iconst 0, 1) := by decide +kernel
theorem dX4_payAllFees_1 : decode cX4_payAllFees 1 = .ok (.istore_n 1, 1) := by decide +kernel
theorem dX4_payAllFees_2 : decode cX4_payAllFees 2 = .ok (.iconst 0, 1) := by decide +kernel
theorem dX4_payAllFees_3 : decode cX4_payAllFees 3 = .ok (.istore_n 2, 1) := by decide +kernel
theorem dX4_payAllFees_4 : decode cX4_payAllFees 4 = .ok (.iload_n 2, 1) := by decide +kernel
theorem dX4_payAllFees_5 : decode cX4_payAllFees 5 = .ok (.aload_n 0, 1) := by decide +kernel
theorem dX4_payAllFees_6 : decode cX4_payAllFees 6 = .ok (.getfield 15, 3) := by decide +kernel
theorem dX4_payAllFees_9 : decode cX4_payAllFees 9 = .ok (.if_icmp .ge 44, 3) := by decide +kernel
theorem dX4_payAllFees_12 : decode cX4_payAllFees 12 = .ok (.iload_n 2, 1) := by decide +kernel
theorem dX4_payAllFees_13 : decode cX4_payAllFees 13 = .ok (.aload_n 0, 1) := by decide +kernel
theorem dX4_payAllFees_14 : decode cX4_payAllFees 14 = .ok (.getfield 29, 3) := by decide +kernel
theorem dX4_payAllFees_17 : decode cX4_payAllFees 17 = .ok (.arraylength, 1) := by decide +kernel
theorem dX4_payAllFees_18 : decode cX4_payAllFees 18 = .ok (.if_icmp .ge 35, 3) := by decide +kernel
theorem dX4_payAllFees_21 : decode cX4_payAllFees 21 = .ok (.aload_n 0, 1) := by decide +kernel
theorem dX4_payAllFees_22 : decode cX4_payAllFees 22 = .ok (.aload_n 0, 1) := by decide +kernel
theorem dX4_payAllFees_23 : decode cX4_payAllFees 23 = .ok (.getfield 29, 3) := by decide +kernel
theorem dX4_payAllFees_26 : decode cX4_payAllFees 26 = .ok (.iload_n 2, 1) := by decide +kernel
theorem dX4_payAllFees_27 : decode cX4_payAllFees 27 = .ok (.aaload, 1) := by decide +kernel
theorem dX4_payAllFees_28 : decode cX4_payAllFees 28 = .ok (.invokevirtual 137, 3) := by decide +kernel
theorem dX4_payAllFees_31 : decode cX4_payAllFees 31 = .ok (.ifCond .eq 16, 3) := by decide +kernel
theorem dX4_payAllFees_34 : decode cX4_payAllFees 34 = .ok (.iload_n 1, 1) := by decide +kernel
theorem dX4_payAllFees_35 : decode cX4_payAllFees 35 = .ok (.aload_n 0, 1) := by decide +kernel
theorem dX4_payAllFees_36 : decode cX4_payAllFees 36 = .ok (.aload_n 0, 1) := by decide +kernel
theorem dX4_payAllFees_37 : decode cX4_payAllFees 37 = .ok (.getfield 29, 3) := by decide +kernel
theorem dX4_payAllFees_40 : decode cX4_payAllFees 40 = .ok (.iload_n 2, 1) := by decide +kernel
theorem dX4_payAllFees_41 : decode cX4_payAllFees 41 = .ok (.aaload, 1) := by decide +kernel
theorem dX4_payAllFees_42 : decode cX4_payAllFees 42 = .ok (.invokevirtual 141, 3) := by decide +kernel
theorem dX4_payAllFees_45 : decode cX4_payAllFees 45 = .ok (.iadd, 1) := by decide +kernel
theorem dX4_payAllFees_46 : decode cX4_payAllFees 46 = .ok (.istore_n 1, 1) := by decide +kernel
theorem dX4_payAllFees_47 : decode cX4_payAllFees 47 = .ok (.iinc 2 1, 3) := by decide +kernel
theorem dX4_payAllFees_50 : decode cX4_payAllFees 50 = .ok (.goto (-46), 3) := by decide +kernel
theorem dX4_payAllFees_53 : decode cX4_payAllFees 53 = .ok (.iload_n 1, 1) := by decide +kernel
theorem dX4_payAllFees_54 : decode cX4_payAllFees 54 = .ok (.ireturn, 1) := by decide +kernel
theorem dX4_reviveRight_0 : decode cX4_reviveRight 0 = .ok (.aload_n 0, 1) := by decide +kernel
theorem dX4_reviveRight_1 : decode cX4_reviveRight 1 = .ok (.getfield 43, 3) := by decide +kernel
theorem dX4_reviveRight_4 : decode cX4_reviveRight 4 = .ok (.getfield 145, 3) := by decide +kernel
theorem dX4_reviveRight_7 : decode cX4_reviveRight 7 = .ok (.istore_n 2, 1) := by decide +kernel
theorem dX4_reviveRight_8 : decode cX4_reviveRight 8 = .ok (.aload_n 0, 1) := by decide +kernel
theorem dX4_reviveRight_9 : decode cX4_reviveRight 9 = .ok (.dup, 1) := by decide +kernel
theorem dX4_reviveRight_10 : decode cX4_reviveRight 10 = .ok (.getfield 18, 3) := by decide +kernel
theorem dX4_reviveRight_13 : decode cX4_reviveRight 13 = .ok (.aload_n 0, 1) := by decide +kernel
theorem dX4_reviveRight_14 : decode cX4_reviveRight 14 = .ok (.getfield 43, 3) := by decide +kernel
theorem dX4_reviveRight_17 : decode cX4_reviveRight 17 = .ok (.getfield 145, 3) := by decide +kernel
theorem dX4_reviveRight_20 : decode cX4_reviveRight 20 = .ok (.iadd, 1) := by decide +kernel
theorem dX4_reviveRight_21 : decode cX4_reviveRight 21 = .ok (.putfield 18, 3) := by decide +kernel
theorem dX4_reviveRight_24 : decode cX4_reviveRight 24 = .ok (.aload_n 0, 1) := by decide +kernel
theorem dX4_reviveRight_25 : decode cX4_reviveRight 25 = .ok (.dup, 1) := by decide +kernel
theorem dX4_reviveRight_26 : decode cX4_reviveRight 26 = .ok (.getfield 24, 3) := by decide +kernel
theorem dX4_reviveRight_29 : decode cX4_reviveRight 29 = .ok (.aload_n 0, 1) := by decide +kernel
theorem dX4_reviveRight_30 : decode cX4_reviveRight 30 = .ok (.getfield 43, 3) := by decide +kernel
theorem dX4_reviveRight_33 : decode cX4_reviveRight 33 = .ok (.getfield 145, 3) := by decide +kernel
theorem dX4_reviveRight_36 : decode cX4_reviveRight 36 = .ok (.iadd, 1) := by decide +kernel
theorem dX4_reviveRight_37 : decode cX4_reviveRight 37 = .ok (.putfield 24, 3) := by decide +kernel
theorem dX4_reviveRight_40 : decode cX4_reviveRight 40 = .ok (.aload_n 1, 1) := by decide +kernel
theorem dX4_reviveRight_41 : decode cX4_reviveRight 41 = .ok (.aload_n 1, 1) := by decide +kernel
theorem dX4_reviveRight_42 : decode cX4_reviveRight 42 = .ok (.invokevirtual 87, 3) := by decide +kernel
theorem dX4_reviveRight_45 : decode cX4_reviveRight 45 = .ok (.aload_n 0, 1) := by decide +kernel
theorem dX4_reviveRight_46 : decode cX4_reviveRight 46 = .ok (.getfield 43, 3) := by decide +kernel
theorem dX4_reviveRight_49 : decode cX4_reviveRight 49 = .ok (.getfield 145, 3) := by decide +kernel
theorem dX4_reviveRight_52 : decode cX4_reviveRight 52 = .ok (.aload_n 0, 1) := by decide +kernel
theorem dX4_reviveRight_53 : decode cX4_reviveRight 53 = .ok (.getfield 9, 3) := by decide +kernel
theorem dX4_reviveRight_56 : decode cX4_reviveRight 56 = .ok (.invokevirtual 148, 3) := by decide +kernel
theorem dX4_reviveRight_59 : decode cX4_reviveRight 59 = .ok (.iconst 0, 1) := by decide +kernel
theorem dX4_reviveRight_60 : decode cX4_reviveRight 60 = .ok (.istore_n 3, 1) := by decide +kernel
theorem dX4_reviveRight_61 : decode cX4_reviveRight 61 = .ok (.iload_n 3, 1) := by decide +kernel
theorem dX4_reviveRight_62 : decode cX4_reviveRight 62 = .ok (.bipush 19, 2) := by decide +kernel
theorem dX4_reviveRight_64 : decode cX4_reviveRight 64 = .ok (.if_icmp .ge 28, 3) := by decide +kernel
theorem dX4_reviveRight_67 : decode cX4_reviveRight 67 = .ok (.aload_n 1, 1) := by decide +kernel
theorem dX4_reviveRight_68 : decode cX4_reviveRight 68 = .ok (.aload_n 0, 1) := by decide +kernel
theorem dX4_reviveRight_69 : decode cX4_reviveRight 69 = .ok (.getfield 9, 3) := by decide +kernel
theorem dX4_reviveRight_72 : decode cX4_reviveRight 72 = .ok (.invokevirtual 83, 3) := by decide +kernel
theorem dX4_reviveRight_75 : decode cX4_reviveRight 75 = .ok (.ifCond .eq 17, 3) := by decide +kernel
theorem dX4_reviveRight_78 : decode cX4_reviveRight 78 = .ok (.iload_n 2, 1) := by decide +kernel
theorem dX4_reviveRight_79 : decode cX4_reviveRight 79 = .ok (.aload_n 0, 1) := by decide +kernel
theorem dX4_reviveRight_80 : decode cX4_reviveRight 80 = .ok (.aload_n 1, 1) := by decide +kernel
theorem dX4_reviveRight_81 : decode cX4_reviveRight 81 = .ok (.invokevirtual 141, 3) := by decide +kernel
theorem dX4_reviveRight_84 : decode cX4_reviveRight 84 = .ok (.iadd, 1) := by decide +kernel
theorem dX4_reviveRight_85 : decode cX4_reviveRight 85 = .ok (.istore_n 2, 1) := by decide +kernel
theorem dX4_reviveRight_86 : decode cX4_reviveRight 86 = .ok (.iinc 3 1, 3) := by decide +kernel
theorem dX4_reviveRight_89 : decode cX4_reviveRight 89 = .ok (.goto (-28), 3) := by decide +kernel
theorem dX4_reviveRight_92 : decode cX4_reviveRight 92 = .ok (.iload_n 2, 1) := by decide +kernel
theorem dX4_reviveRight_93 : decode cX4_reviveRight 93 = .ok (.ireturn, 1) := by decide +kernel
theorem dX4_rightDueFirst_0 : decode cX4_rightDueFirst 0 = .ok (.iconst (-1), 1) := by decide +kernel
theorem dX4_rightDueFirst_1 : decode cX4_rightDueFirst 1 = .ok (.istore_n 1, 1) := by decide +kernel
theorem dX4_rightDueFirst_2 : decode cX4_rightDueFirst 2 = .ok (.iconst 0, 1) := by decide +kernel
theorem dX4_rightDueFirst_3 : decode cX4_rightDueFirst 3 = .ok (.istore_n 2, 1) := by decide +kernel
theorem dX4_rightDueFirst_4 : decode cX4_rightDueFirst 4 = .ok (.iconst 0, 1) := by decide +kernel
theorem dX4_rightDueFirst_5 : decode cX4_rightDueFirst 5 = .ok (.istore_n 3, 1) := by decide +kernel
theorem dX4_rightDueFirst_6 : decode cX4_rightDueFirst 6 = .ok (.iload_n 3, 1) := by decide +kernel
theorem dX4_rightDueFirst_7 : decode cX4_rightDueFirst 7 = .ok (.aload_n 0, 1) := by decide +kernel
theorem dX4_rightDueFirst_8 : decode cX4_rightDueFirst 8 = .ok (.getfield 15, 3) := by decide +kernel
theorem dX4_rightDueFirst_11 : decode cX4_rightDueFirst 11 = .ok (.if_icmp .ge 85, 3) := by decide +kernel
theorem dX4_rightDueFirst_14 : decode cX4_rightDueFirst 14 = .ok (.iload_n 3, 1) := by decide +kernel
theorem dX4_rightDueFirst_15 : decode cX4_rightDueFirst 15 = .ok (.aload_n 0, 1) := by decide +kernel
theorem dX4_rightDueFirst_16 : decode cX4_rightDueFirst 16 = .ok (.getfield 29, 3) := by decide +kernel
theorem dX4_rightDueFirst_19 : decode cX4_rightDueFirst 19 = .ok (.arraylength, 1) := by decide +kernel
theorem dX4_rightDueFirst_20 : decode cX4_rightDueFirst 20 = .ok (.if_icmp .ge 76, 3) := by decide +kernel
theorem dX4_rightDueFirst_23 : decode cX4_rightDueFirst 23 = .ok (.aload_n 0, 1) := by decide +kernel
theorem dX4_rightDueFirst_24 : decode cX4_rightDueFirst 24 = .ok (.getfield 29, 3) := by decide +kernel
theorem dX4_rightDueFirst_27 : decode cX4_rightDueFirst 27 = .ok (.iload_n 3, 1) := by decide +kernel
theorem dX4_rightDueFirst_28 : decode cX4_rightDueFirst 28 = .ok (.aaload, 1) := by decide +kernel
theorem dX4_rightDueFirst_29 : decode cX4_rightDueFirst 29 = .ok (.invokevirtual 87, 3) := by decide +kernel
theorem dX4_rightDueFirst_32 : decode cX4_rightDueFirst 32 = .ok (.istore 4, 2) := by decide +kernel
theorem dX4_rightDueFirst_34 : decode cX4_rightDueFirst 34 = .ok (.iload 4, 2) := by decide +kernel
theorem dX4_rightDueFirst_36 : decode cX4_rightDueFirst 36 = .ok (.iconst (-1), 1) := by decide +kernel
theorem dX4_rightDueFirst_37 : decode cX4_rightDueFirst 37 = .ok (.if_icmp .eq 53, 3) := by decide +kernel
theorem dX4_rightDueFirst_40 : decode cX4_rightDueFirst 40 = .ok (.aload_n 0, 1) := by decide +kernel
theorem dX4_rightDueFirst_41 : decode cX4_rightDueFirst 41 = .ok (.getfield 29, 3) := by decide +kernel
theorem dX4_rightDueFirst_44 : decode cX4_rightDueFirst 44 = .ok (.iload_n 3, 1) := by decide +kernel
theorem dX4_rightDueFirst_45 : decode cX4_rightDueFirst 45 = .ok (.aaload, 1) := by decide +kernel
theorem dX4_rightDueFirst_46 : decode cX4_rightDueFirst 46 = .ok (.aload_n 0, 1) := by decide +kernel
theorem dX4_rightDueFirst_47 : decode cX4_rightDueFirst 47 = .ok (.getfield 9, 3) := by decide +kernel
theorem dX4_rightDueFirst_50 : decode cX4_rightDueFirst 50 = .ok (.invokevirtual 83, 3) := by decide +kernel
theorem dX4_rightDueFirst_53 : decode cX4_rightDueFirst 53 = .ok (.ifCond .ne 37, 3) := by decide +kernel
theorem dX4_rightDueFirst_56 : decode cX4_rightDueFirst 56 = .ok (.iload_n 1, 1) := by decide +kernel
theorem dX4_rightDueFirst_57 : decode cX4_rightDueFirst 57 = .ok (.iconst (-1), 1) := by decide +kernel
theorem dX4_rightDueFirst_58 : decode cX4_rightDueFirst 58 = .ok (.if_icmp .eq 18, 3) := by decide +kernel
theorem dX4_rightDueFirst_61 : decode cX4_rightDueFirst 61 = .ok (.aload_n 0, 1) := by decide +kernel
theorem dX4_rightDueFirst_62 : decode cX4_rightDueFirst 62 = .ok (.getfield 29, 3) := by decide +kernel
theorem dX4_rightDueFirst_65 : decode cX4_rightDueFirst 65 = .ok (.iload_n 3, 1) := by decide +kernel
theorem dX4_rightDueFirst_66 : decode cX4_rightDueFirst 66 = .ok (.aaload, 1) := by decide +kernel
theorem dX4_rightDueFirst_67 : decode cX4_rightDueFirst 67 = .ok (.iload 4, 2) := by decide +kernel
theorem dX4_rightDueFirst_69 : decode cX4_rightDueFirst 69 = .ok (.invokevirtual 91, 3) := by decide +kernel
theorem dX4_rightDueFirst_72 : decode cX4_rightDueFirst 72 = .ok (.iload_n 2, 1) := by decide +kernel
theorem dX4_rightDueFirst_73 : decode cX4_rightDueFirst 73 = .ok (.if_icmp .ge 17, 3) := by decide +kernel
theorem dX4_rightDueFirst_76 : decode cX4_rightDueFirst 76 = .ok (.iload_n 3, 1) := by decide +kernel
theorem dX4_rightDueFirst_77 : decode cX4_rightDueFirst 77 = .ok (.istore_n 1, 1) := by decide +kernel
theorem dX4_rightDueFirst_78 : decode cX4_rightDueFirst 78 = .ok (.aload_n 0, 1) := by decide +kernel
theorem dX4_rightDueFirst_79 : decode cX4_rightDueFirst 79 = .ok (.getfield 29, 3) := by decide +kernel
theorem dX4_rightDueFirst_82 : decode cX4_rightDueFirst 82 = .ok (.iload_n 3, 1) := by decide +kernel
theorem dX4_rightDueFirst_83 : decode cX4_rightDueFirst 83 = .ok (.aaload, 1) := by decide +kernel
theorem dX4_rightDueFirst_84 : decode cX4_rightDueFirst 84 = .ok (.iload 4, 2) := by decide +kernel
theorem dX4_rightDueFirst_86 : decode cX4_rightDueFirst 86 = .ok (.invokevirtual 91, 3) := by decide +kernel
theorem dX4_rightDueFirst_89 : decode cX4_rightDueFirst 89 = .ok (.istore_n 2, 1) := by decide +kernel
theorem dX4_rightDueFirst_90 : decode cX4_rightDueFirst 90 = .ok (.iinc 3 1, 3) := by decide +kernel
theorem dX4_rightDueFirst_93 : decode cX4_rightDueFirst 93 = .ok (.goto (-87), 3) := by decide +kernel
theorem dX4_rightDueFirst_96 : decode cX4_rightDueFirst 96 = .ok (.iload_n 1, 1) := by decide +kernel
theorem dX4_rightDueFirst_97 : decode cX4_rightDueFirst 97 = .ok (.ireturn, 1) := by decide +kernel
theorem dX4_costsWithin_0 : decode cX4_costsWithin 0 = .ok (.iconst 0, 1) := by decide +kernel
theorem dX4_costsWithin_1 : decode cX4_costsWithin 1 = .ok (.istore_n 2, 1) := by decide +kernel
theorem dX4_costsWithin_2 : decode cX4_costsWithin 2 = .ok (.iconst 0, 1) := by decide +kernel
theorem dX4_costsWithin_3 : decode cX4_costsWithin 3 = .ok (.istore_n 3, 1) := by decide +kernel
theorem dX4_costsWithin_4 : decode cX4_costsWithin 4 = .ok (.iload_n 3, 1) := by decide +kernel
theorem dX4_costsWithin_5 : decode cX4_costsWithin 5 = .ok (.aload_n 0, 1) := by decide +kernel
theorem dX4_costsWithin_6 : decode cX4_costsWithin 6 = .ok (.getfield 15, 3) := by decide +kernel
theorem dX4_costsWithin_9 : decode cX4_costsWithin 9 = .ok (.if_icmp .ge 53, 3) := by decide +kernel
theorem dX4_costsWithin_12 : decode cX4_costsWithin 12 = .ok (.iload_n 3, 1) := by decide +kernel
theorem dX4_costsWithin_13 : decode cX4_costsWithin 13 = .ok (.aload_n 0, 1) := by decide +kernel
theorem dX4_costsWithin_14 : decode cX4_costsWithin 14 = .ok (.getfield 29, 3) := by decide +kernel
theorem dX4_costsWithin_17 : decode cX4_costsWithin 17 = .ok (.arraylength, 1) := by decide +kernel
theorem dX4_costsWithin_18 : decode cX4_costsWithin 18 = .ok (.if_icmp .ge 44, 3) := by decide +kernel
theorem dX4_costsWithin_21 : decode cX4_costsWithin 21 = .ok (.aload_n 0, 1) := by decide +kernel
theorem dX4_costsWithin_22 : decode cX4_costsWithin 22 = .ok (.getfield 29, 3) := by decide +kernel
theorem dX4_costsWithin_25 : decode cX4_costsWithin 25 = .ok (.iload_n 3, 1) := by decide +kernel
theorem dX4_costsWithin_26 : decode cX4_costsWithin 26 = .ok (.aaload, 1) := by decide +kernel
theorem dX4_costsWithin_27 : decode cX4_costsWithin 27 = .ok (.aload_n 0, 1) := by decide +kernel
theorem dX4_costsWithin_28 : decode cX4_costsWithin 28 = .ok (.getfield 9, 3) := by decide +kernel
theorem dX4_costsWithin_31 : decode cX4_costsWithin 31 = .ok (.invokevirtual 83, 3) := by decide +kernel
theorem dX4_costsWithin_34 : decode cX4_costsWithin 34 = .ok (.ifCond .ne 22, 3) := by decide +kernel
theorem dX4_costsWithin_37 : decode cX4_costsWithin 37 = .ok (.iload_n 2, 1) := by decide +kernel
theorem dX4_costsWithin_38 : decode cX4_costsWithin 38 = .ok (.aload_n 0, 1) := by decide +kernel
theorem dX4_costsWithin_39 : decode cX4_costsWithin 39 = .ok (.aload_n 0, 1) := by decide +kernel
theorem dX4_costsWithin_40 : decode cX4_costsWithin 40 = .ok (.getfield 29, 3) := by decide +kernel
theorem dX4_costsWithin_43 : decode cX4_costsWithin 43 = .ok (.iload_n 3, 1) := by decide +kernel
theorem dX4_costsWithin_44 : decode cX4_costsWithin 44 = .ok (.aaload, 1) := by decide +kernel
theorem dX4_costsWithin_45 : decode cX4_costsWithin 45 = .ok (.aload_n 0, 1) := by decide +kernel
theorem dX4_costsWithin_46 : decode cX4_costsWithin 46 = .ok (.getfield 9, 3) := by decide +kernel
theorem dX4_costsWithin_49 : decode cX4_costsWithin 49 = .ok (.iload_n 1, 1) := by decide +kernel
theorem dX4_costsWithin_50 : decode cX4_costsWithin 50 = .ok (.iadd, 1) := by decide +kernel
theorem dX4_costsWithin_51 : decode cX4_costsWithin 51 = .ok (.invokevirtual 152, 3) := by decide +kernel
theorem dX4_costsWithin_54 : decode cX4_costsWithin 54 = .ok (.iadd, 1) := by decide +kernel
theorem dX4_costsWithin_55 : decode cX4_costsWithin 55 = .ok (.istore_n 2, 1) := by decide +kernel
theorem dX4_costsWithin_56 : decode cX4_costsWithin 56 = .ok (.iinc 3 1, 3) := by decide +kernel
theorem dX4_costsWithin_59 : decode cX4_costsWithin 59 = .ok (.goto (-55), 3) := by decide +kernel
theorem dX4_costsWithin_62 : decode cX4_costsWithin 62 = .ok (.iload_n 2, 1) := by decide +kernel
theorem dX4_costsWithin_63 : decode cX4_costsWithin 63 = .ok (.ireturn, 1) := by decide +kernel
theorem dX4_costsUpTo_0 : decode cX4_costsUpTo 0 = .ok (.iconst 0, 1) := by decide +kernel
theorem dX4_costsUpTo_1 : decode cX4_costsUpTo 1 = .ok (.istore_n 3, 1) := by decide +kernel
theorem dX4_costsUpTo_2 : decode cX4_costsUpTo 2 = .ok (.aload_n 1, 1) := by decide +kernel
theorem dX4_costsUpTo_3 : decode cX4_costsUpTo 3 = .ok (.getfield 155, 3) := by decide +kernel
theorem dX4_costsUpTo_6 : decode cX4_costsUpTo 6 = .ok (.iconst 1, 1) := by decide +kernel
theorem dX4_costsUpTo_7 : decode cX4_costsUpTo 7 = .ok (.iadd, 1) := by decide +kernel
theorem dX4_costsUpTo_8 : decode cX4_costsUpTo 8 = .ok (.istore 4, 2) := by decide +kernel
theorem dX4_costsUpTo_10 : decode cX4_costsUpTo 10 = .ok (.iload 4, 2) := by decide +kernel
theorem dX4_costsUpTo_12 : decode cX4_costsUpTo 12 = .ok (.bipush 19, 2) := by decide +kernel
theorem dX4_costsUpTo_14 : decode cX4_costsUpTo 14 = .ok (.if_icmp .gt 29, 3) := by decide +kernel
theorem dX4_costsUpTo_17 : decode cX4_costsUpTo 17 = .ok (.aload_n 1, 1) := by decide +kernel
theorem dX4_costsUpTo_18 : decode cX4_costsUpTo 18 = .ok (.iload 4, 2) := by decide +kernel
theorem dX4_costsUpTo_20 : decode cX4_costsUpTo 20 = .ok (.invokevirtual 91, 3) := by decide +kernel
theorem dX4_costsUpTo_23 : decode cX4_costsUpTo 23 = .ok (.iload_n 2, 1) := by decide +kernel
theorem dX4_costsUpTo_24 : decode cX4_costsUpTo 24 = .ok (.if_icmp .gt 19, 3) := by decide +kernel
theorem dX4_costsUpTo_27 : decode cX4_costsUpTo 27 = .ok (.iload_n 3, 1) := by decide +kernel
theorem dX4_costsUpTo_28 : decode cX4_costsUpTo 28 = .ok (.aload_n 0, 1) := by decide +kernel
theorem dX4_costsUpTo_29 : decode cX4_costsUpTo 29 = .ok (.aload_n 1, 1) := by decide +kernel
theorem dX4_costsUpTo_30 : decode cX4_costsUpTo 30 = .ok (.iload 4, 2) := by decide +kernel
theorem dX4_costsUpTo_32 : decode cX4_costsUpTo 32 = .ok (.invokevirtual 130, 3) := by decide +kernel
theorem dX4_costsUpTo_35 : decode cX4_costsUpTo 35 = .ok (.iadd, 1) := by decide +kernel
theorem dX4_costsUpTo_36 : decode cX4_costsUpTo 36 = .ok (.istore_n 3, 1) := by decide +kernel
theorem dX4_costsUpTo_37 : decode cX4_costsUpTo 37 = .ok (.iinc 4 1, 3) := by decide +kernel
theorem dX4_costsUpTo_40 : decode cX4_costsUpTo 40 = .ok (.goto (-30), 3) := by decide +kernel
theorem dX4_costsUpTo_43 : decode cX4_costsUpTo 43 = .ok (.iload_n 3, 1) := by decide +kernel
theorem dX4_costsUpTo_44 : decode cX4_costsUpTo 44 = .ok (.ireturn, 1) := by decide +kernel
theorem dX4_rightValue_0 : decode cX4_rightValue 0 = .ok (.iload_n 2, 1) := by decide +kernel
theorem dX4_rightValue_1 : decode cX4_rightValue 1 = .ok (.tableswitch 156 0 11 #[63, 68, 81, 86, 91, 100, 109, 119, 136, 141, 146, 151], 63) := by decide +kernel
theorem dX4_rightValue_64 : decode cX4_rightValue 64 = .ok (.aload_n 1, 1) := by decide +kernel
theorem dX4_rightValue_65 : decode cX4_rightValue 65 = .ok (.getfield 158, 3) := by decide +kernel
theorem dX4_rightValue_68 : decode cX4_rightValue 68 = .ok (.ireturn, 1) := by decide +kernel
theorem dX4_rightValue_69 : decode cX4_rightValue 69 = .ok (.aload_n 1, 1) := by decide +kernel
theorem dX4_rightValue_70 : decode cX4_rightValue 70 = .ok (.getfield 116, 3) := by decide +kernel
theorem dX4_rightValue_73 : decode cX4_rightValue 73 = .ok (.ifCond .eq 7, 3) := by decide +kernel
theorem dX4_rightValue_76 : decode cX4_rightValue 76 = .ok (.iconst 1, 1) := by decide +kernel
theorem dX4_rightValue_77 : decode cX4_rightValue 77 = .ok (.goto 4, 3) := by decide +kernel
theorem dX4_rightValue_80 : decode cX4_rightValue 80 = .ok (.iconst 0, 1) := by decide +kernel
theorem dX4_rightValue_81 : decode cX4_rightValue 81 = .ok (.ireturn, 1) := by decide +kernel
theorem dX4_rightValue_82 : decode cX4_rightValue 82 = .ok (.aload_n 1, 1) := by decide +kernel
theorem dX4_rightValue_83 : decode cX4_rightValue 83 = .ok (.getfield 155, 3) := by decide +kernel
theorem dX4_rightValue_86 : decode cX4_rightValue 86 = .ok (.ireturn, 1) := by decide +kernel
theorem dX4_rightValue_87 : decode cX4_rightValue 87 = .ok (.aload_n 1, 1) := by decide +kernel
theorem dX4_rightValue_88 : decode cX4_rightValue 88 = .ok (.invokevirtual 87, 3) := by decide +kernel
theorem dX4_rightValue_91 : decode cX4_rightValue 91 = .ok (.ireturn, 1) := by decide +kernel
theorem dX4_rightValue_92 : decode cX4_rightValue 92 = .ok (.aload_n 1, 1) := by decide +kernel
theorem dX4_rightValue_93 : decode cX4_rightValue 93 = .ok (.aload_n 1, 1) := by decide +kernel
theorem dX4_rightValue_94 : decode cX4_rightValue 94 = .ok (.invokevirtual 87, 3) := by decide +kernel
theorem dX4_rightValue_97 : decode cX4_rightValue 97 = .ok (.invokevirtual 91, 3) := by decide +kernel
theorem dX4_rightValue_100 : decode cX4_rightValue 100 = .ok (.ireturn, 1) := by decide +kernel
theorem dX4_rightValue_101 : decode cX4_rightValue 101 = .ok (.aload_n 1, 1) := by decide +kernel
theorem dX4_rightValue_102 : decode cX4_rightValue 102 = .ok (.aload_n 1, 1) := by decide +kernel
theorem dX4_rightValue_103 : decode cX4_rightValue 103 = .ok (.invokevirtual 87, 3) := by decide +kernel
theorem dX4_rightValue_106 : decode cX4_rightValue 106 = .ok (.invokevirtual 98, 3) := by decide +kernel
theorem dX4_rightValue_109 : decode cX4_rightValue 109 = .ok (.ireturn, 1) := by decide +kernel
theorem dX4_rightValue_110 : decode cX4_rightValue 110 = .ok (.aload_n 0, 1) := by decide +kernel
theorem dX4_rightValue_111 : decode cX4_rightValue 111 = .ok (.aload_n 1, 1) := by decide +kernel
theorem dX4_rightValue_112 : decode cX4_rightValue 112 = .ok (.aload_n 1, 1) := by decide +kernel
theorem dX4_rightValue_113 : decode cX4_rightValue 113 = .ok (.invokevirtual 87, 3) := by decide +kernel
theorem dX4_rightValue_116 : decode cX4_rightValue 116 = .ok (.invokevirtual 130, 3) := by decide +kernel
theorem dX4_rightValue_119 : decode cX4_rightValue 119 = .ok (.ireturn, 1) := by decide +kernel
theorem dX4_rightValue_120 : decode cX4_rightValue 120 = .ok (.aload_n 1, 1) := by decide +kernel
theorem dX4_rightValue_121 : decode cX4_rightValue 121 = .ok (.aload_n 0, 1) := by decide +kernel
theorem dX4_rightValue_122 : decode cX4_rightValue 122 = .ok (.getfield 9, 3) := by decide +kernel
theorem dX4_rightValue_125 : decode cX4_rightValue 125 = .ok (.invokevirtual 83, 3) := by decide +kernel
theorem dX4_rightValue_128 : decode cX4_rightValue 128 = .ok (.ifCond .eq 7, 3) := by decide +kernel
theorem dX4_rightValue_131 : decode cX4_rightValue 131 = .ok (.iconst 1, 1) := by decide +kernel
theorem dX4_rightValue_132 : decode cX4_rightValue 132 = .ok (.goto 4, 3) := by decide +kernel
theorem dX4_rightValue_135 : decode cX4_rightValue 135 = .ok (.iconst 0, 1) := by decide +kernel
theorem dX4_rightValue_136 : decode cX4_rightValue 136 = .ok (.ireturn, 1) := by decide +kernel
theorem dX4_rightValue_137 : decode cX4_rightValue 137 = .ok (.aload_n 1, 1) := by decide +kernel
theorem dX4_rightValue_138 : decode cX4_rightValue 138 = .ok (.getfield 95, 3) := by decide +kernel
theorem dX4_rightValue_141 : decode cX4_rightValue 141 = .ok (.ireturn, 1) := by decide +kernel
theorem dX4_rightValue_142 : decode cX4_rightValue 142 = .ok (.aload_n 1, 1) := by decide +kernel
theorem dX4_rightValue_143 : decode cX4_rightValue 143 = .ok (.getfield 160, 3) := by decide +kernel
theorem dX4_rightValue_146 : decode cX4_rightValue 146 = .ok (.ireturn, 1) := by decide +kernel
theorem dX4_rightValue_147 : decode cX4_rightValue 147 = .ok (.aload_n 1, 1) := by decide +kernel
theorem dX4_rightValue_148 : decode cX4_rightValue 148 = .ok (.invokevirtual 163, 3) := by decide +kernel
theorem dX4_rightValue_151 : decode cX4_rightValue 151 = .ok (.ireturn, 1) := by decide +kernel
theorem dX4_rightValue_152 : decode cX4_rightValue 152 = .ok (.aload_n 1, 1) := by decide +kernel
theorem dX4_rightValue_153 : decode cX4_rightValue 153 = .ok (.invokevirtual 166, 3) := by decide +kernel
theorem dX4_rightValue_156 : decode cX4_rightValue 156 = .ok (.ireturn, 1) := by decide +kernel
theorem dX4_rightValue_157 : decode cX4_rightValue 157 = .ok (.aload_n 1, 1) := by decide +kernel
theorem dX4_rightValue_158 : decode cX4_rightValue 158 = .ok (.getfield 169, 3) := by decide +kernel
theorem dX4_rightValue_161 : decode cX4_rightValue 161 = .ok (.ireturn, 1) := by decide +kernel
theorem dX4_docketValue_0 : decode cX4_docketValue 0 = .ok (.iload_n 1, 1) := by decide +kernel
theorem dX4_docketValue_1 : decode cX4_docketValue 1 = .ok (.tableswitch 126 0 10 #[59, 64, 69, 74, 79, 87, 92, 97, 102, 110, 118], 59) := by decide +kernel
theorem dX4_docketValue_60 : decode cX4_docketValue 60 = .ok (.aload_n 0, 1) := by decide +kernel
theorem dX4_docketValue_61 : decode cX4_docketValue 61 = .ok (.getfield 9, 3) := by decide +kernel
theorem dX4_docketValue_64 : decode cX4_docketValue 64 = .ok (.ireturn, 1) := by decide +kernel
theorem dX4_docketValue_65 : decode cX4_docketValue 65 = .ok (.aload_n 0, 1) := by decide +kernel
theorem dX4_docketValue_66 : decode cX4_docketValue 66 = .ok (.getfield 15, 3) := by decide +kernel
theorem dX4_docketValue_69 : decode cX4_docketValue 69 = .ok (.ireturn, 1) := by decide +kernel
theorem dX4_docketValue_70 : decode cX4_docketValue 70 = .ok (.aload_n 0, 1) := by decide +kernel
theorem dX4_docketValue_71 : decode cX4_docketValue 71 = .ok (.invokevirtual 170, 3) := by decide +kernel
theorem dX4_docketValue_74 : decode cX4_docketValue 74 = .ok (.ireturn, 1) := by decide +kernel
theorem dX4_docketValue_75 : decode cX4_docketValue 75 = .ok (.aload_n 0, 1) := by decide +kernel
theorem dX4_docketValue_76 : decode cX4_docketValue 76 = .ok (.invokevirtual 173, 3) := by decide +kernel
theorem dX4_docketValue_79 : decode cX4_docketValue 79 = .ok (.ireturn, 1) := by decide +kernel
theorem dX4_docketValue_80 : decode cX4_docketValue 80 = .ok (.aload_n 0, 1) := by decide +kernel
theorem dX4_docketValue_81 : decode cX4_docketValue 81 = .ok (.getfield 36, 3) := by decide +kernel
theorem dX4_docketValue_84 : decode cX4_docketValue 84 = .ok (.getfield 176, 3) := by decide +kernel
theorem dX4_docketValue_87 : decode cX4_docketValue 87 = .ok (.ireturn, 1) := by decide +kernel
theorem dX4_docketValue_88 : decode cX4_docketValue 88 = .ok (.aload_n 0, 1) := by decide +kernel
theorem dX4_docketValue_89 : decode cX4_docketValue 89 = .ok (.getfield 18, 3) := by decide +kernel
theorem dX4_docketValue_92 : decode cX4_docketValue 92 = .ok (.ireturn, 1) := by decide +kernel
theorem dX4_docketValue_93 : decode cX4_docketValue 93 = .ok (.aload_n 0, 1) := by decide +kernel
theorem dX4_docketValue_94 : decode cX4_docketValue 94 = .ok (.getfield 21, 3) := by decide +kernel
theorem dX4_docketValue_97 : decode cX4_docketValue 97 = .ok (.ireturn, 1) := by decide +kernel
theorem dX4_docketValue_98 : decode cX4_docketValue 98 = .ok (.aload_n 0, 1) := by decide +kernel
theorem dX4_docketValue_99 : decode cX4_docketValue 99 = .ok (.getfield 24, 3) := by decide +kernel
theorem dX4_docketValue_102 : decode cX4_docketValue 102 = .ok (.ireturn, 1) := by decide +kernel
theorem dX4_docketValue_103 : decode cX4_docketValue 103 = .ok (.aload_n 0, 1) := by decide +kernel
theorem dX4_docketValue_104 : decode cX4_docketValue 104 = .ok (.getfield 43, 3) := by decide +kernel
theorem dX4_docketValue_107 : decode cX4_docketValue 107 = .ok (.getfield 179, 3) := by decide +kernel
theorem dX4_docketValue_110 : decode cX4_docketValue 110 = .ok (.ireturn, 1) := by decide +kernel
theorem dX4_docketValue_111 : decode cX4_docketValue 111 = .ok (.aload_n 0, 1) := by decide +kernel
theorem dX4_docketValue_112 : decode cX4_docketValue 112 = .ok (.getfield 43, 3) := by decide +kernel
theorem dX4_docketValue_115 : decode cX4_docketValue 115 = .ok (.getfield 182, 3) := by decide +kernel
theorem dX4_docketValue_118 : decode cX4_docketValue 118 = .ok (.ireturn, 1) := by decide +kernel
theorem dX4_docketValue_119 : decode cX4_docketValue 119 = .ok (.aload_n 0, 1) := by decide +kernel
theorem dX4_docketValue_120 : decode cX4_docketValue 120 = .ok (.getfield 43, 3) := by decide +kernel
theorem dX4_docketValue_123 : decode cX4_docketValue 123 = .ok (.getfield 185, 3) := by decide +kernel
theorem dX4_docketValue_126 : decode cX4_docketValue 126 = .ok (.ireturn, 1) := by decide +kernel
theorem dX4_docketValue_127 : decode cX4_docketValue 127 = .ok (.aload_n 0, 1) := by decide +kernel
theorem dX4_docketValue_128 : decode cX4_docketValue 128 = .ok (.getfield 43, 3) := by decide +kernel
theorem dX4_docketValue_131 : decode cX4_docketValue 131 = .ok (.getfield 145, 3) := by decide +kernel
theorem dX4_docketValue_134 : decode cX4_docketValue 134 = .ok (.ireturn, 1) := by decide +kernel
theorem dX4_countStanding_0 : decode cX4_countStanding 0 = .ok (.iconst 0, 1) := by decide +kernel
theorem dX4_countStanding_1 : decode cX4_countStanding 1 = .ok (.istore_n 1, 1) := by decide +kernel
theorem dX4_countStanding_2 : decode cX4_countStanding 2 = .ok (.iconst 0, 1) := by decide +kernel
theorem dX4_countStanding_3 : decode cX4_countStanding 3 = .ok (.istore_n 2, 1) := by decide +kernel
theorem dX4_countStanding_4 : decode cX4_countStanding 4 = .ok (.iload_n 2, 1) := by decide +kernel
theorem dX4_countStanding_5 : decode cX4_countStanding 5 = .ok (.aload_n 0, 1) := by decide +kernel
theorem dX4_countStanding_6 : decode cX4_countStanding 6 = .ok (.getfield 15, 3) := by decide +kernel
theorem dX4_countStanding_9 : decode cX4_countStanding 9 = .ok (.if_icmp .ge 41, 3) := by decide +kernel
theorem dX4_countStanding_12 : decode cX4_countStanding 12 = .ok (.iload_n 2, 1) := by decide +kernel
theorem dX4_countStanding_13 : decode cX4_countStanding 13 = .ok (.aload_n 0, 1) := by decide +kernel
theorem dX4_countStanding_14 : decode cX4_countStanding 14 = .ok (.getfield 29, 3) := by decide +kernel
theorem dX4_countStanding_17 : decode cX4_countStanding 17 = .ok (.arraylength, 1) := by decide +kernel
theorem dX4_countStanding_18 : decode cX4_countStanding 18 = .ok (.if_icmp .ge 32, 3) := by decide +kernel
theorem dX4_countStanding_21 : decode cX4_countStanding 21 = .ok (.aload_n 0, 1) := by decide +kernel
theorem dX4_countStanding_22 : decode cX4_countStanding 22 = .ok (.getfield 29, 3) := by decide +kernel
theorem dX4_countStanding_25 : decode cX4_countStanding 25 = .ok (.iload_n 2, 1) := by decide +kernel
theorem dX4_countStanding_26 : decode cX4_countStanding 26 = .ok (.aaload, 1) := by decide +kernel
theorem dX4_countStanding_27 : decode cX4_countStanding 27 = .ok (.aload_n 0, 1) := by decide +kernel
theorem dX4_countStanding_28 : decode cX4_countStanding 28 = .ok (.getfield 9, 3) := by decide +kernel
theorem dX4_countStanding_31 : decode cX4_countStanding 31 = .ok (.aload_n 0, 1) := by decide +kernel
theorem dX4_countStanding_32 : decode cX4_countStanding 32 = .ok (.getfield 9, 3) := by decide +kernel
theorem dX4_countStanding_35 : decode cX4_countStanding 35 = .ok (.invokevirtual 109, 3) := by decide +kernel
theorem dX4_countStanding_38 : decode cX4_countStanding 38 = .ok (.ifCond .eq 6, 3) := by decide +kernel
theorem dX4_countStanding_41 : decode cX4_countStanding 41 = .ok (.iinc 1 1, 3) := by decide +kernel
theorem dX4_countStanding_44 : decode cX4_countStanding 44 = .ok (.iinc 2 1, 3) := by decide +kernel
theorem dX4_countStanding_47 : decode cX4_countStanding 47 = .ok (.goto (-43), 3) := by decide +kernel
theorem dX4_countStanding_50 : decode cX4_countStanding 50 = .ok (.iload_n 1, 1) := by decide +kernel
theorem dX4_countStanding_51 : decode cX4_countStanding 51 = .ok (.ireturn, 1) := by decide +kernel
theorem dX4_countLapsed_0 : decode cX4_countLapsed 0 = .ok (.iconst 0, 1) := by decide +kernel
theorem dX4_countLapsed_1 : decode cX4_countLapsed 1 = .ok (.istore_n 1, 1) := by decide +kernel
theorem dX4_countLapsed_2 : decode cX4_countLapsed 2 = .ok (.iconst 0, 1) := by decide +kernel
theorem dX4_countLapsed_3 : decode cX4_countLapsed 3 = .ok (.istore_n 2, 1) := by decide +kernel
theorem dX4_countLapsed_4 : decode cX4_countLapsed 4 = .ok (.iload_n 2, 1) := by decide +kernel
theorem dX4_countLapsed_5 : decode cX4_countLapsed 5 = .ok (.aload_n 0, 1) := by decide +kernel
theorem dX4_countLapsed_6 : decode cX4_countLapsed 6 = .ok (.getfield 15, 3) := by decide +kernel
theorem dX4_countLapsed_9 : decode cX4_countLapsed 9 = .ok (.if_icmp .ge 37, 3) := by decide +kernel
theorem dX4_countLapsed_12 : decode cX4_countLapsed 12 = .ok (.iload_n 2, 1) := by decide +kernel
theorem dX4_countLapsed_13 : decode cX4_countLapsed 13 = .ok (.aload_n 0, 1) := by decide +kernel
theorem dX4_countLapsed_14 : decode cX4_countLapsed 14 = .ok (.getfield 29, 3) := by decide +kernel
theorem dX4_countLapsed_17 : decode cX4_countLapsed 17 = .ok (.arraylength, 1) := by decide +kernel
theorem dX4_countLapsed_18 : decode cX4_countLapsed 18 = .ok (.if_icmp .ge 28, 3) := by decide +kernel
theorem dX4_countLapsed_21 : decode cX4_countLapsed 21 = .ok (.aload_n 0, 1) := by decide +kernel
theorem dX4_countLapsed_22 : decode cX4_countLapsed 22 = .ok (.getfield 29, 3) := by decide +kernel
theorem dX4_countLapsed_25 : decode cX4_countLapsed 25 = .ok (.iload_n 2, 1) := by decide +kernel
theorem dX4_countLapsed_26 : decode cX4_countLapsed 26 = .ok (.aaload, 1) := by decide +kernel
theorem dX4_countLapsed_27 : decode cX4_countLapsed 27 = .ok (.aload_n 0, 1) := by decide +kernel
theorem dX4_countLapsed_28 : decode cX4_countLapsed 28 = .ok (.getfield 9, 3) := by decide +kernel
theorem dX4_countLapsed_31 : decode cX4_countLapsed 31 = .ok (.invokevirtual 83, 3) := by decide +kernel
theorem dX4_countLapsed_34 : decode cX4_countLapsed 34 = .ok (.ifCond .eq 6, 3) := by decide +kernel
theorem dX4_countLapsed_37 : decode cX4_countLapsed 37 = .ok (.iinc 1 1, 3) := by decide +kernel
theorem dX4_countLapsed_40 : decode cX4_countLapsed 40 = .ok (.iinc 2 1, 3) := by decide +kernel
theorem dX4_countLapsed_43 : decode cX4_countLapsed 43 = .ok (.goto (-39), 3) := by decide +kernel
theorem dX4_countLapsed_46 : decode cX4_countLapsed 46 = .ok (.iload_n 1, 1) := by decide +kernel
theorem dX4_countLapsed_47 : decode cX4_countLapsed 47 = .ok (.ireturn, 1) := by decide +kernel
theorem dX6_init_0 : decode cX6_init 0 = .ok (.aload_n 0, 1) := by decide +kernel
theorem dX6_init_1 : decode cX6_init 1 = .ok (.invokespecial 1, 3) := by decide +kernel
theorem dX6_init_4 : decode cX6_init 4 = .ok (.aload_n 0, 1) := by decide +kernel
theorem dX6_init_5 : decode cX6_init 5 = .ok (.new 7, 3) := by decide +kernel
theorem dX6_init_8 : decode cX6_init 8 = .ok (.dup, 1) := by decide +kernel
theorem dX6_init_9 : decode cX6_init 9 = .ok (.invokespecial 9, 3) := by decide +kernel
theorem dX6_init_12 : decode cX6_init 12 = .ok (.putfield 10, 3) := by decide +kernel
theorem dX6_init_15 : decode cX6_init 15 = .ok (.aload_n 0, 1) := by decide +kernel
theorem dX6_init_16 : decode cX6_init 16 = .ok (.iconst 4, 1) := by decide +kernel
theorem dX6_init_17 : decode cX6_init 17 = .ok (.anewarray 7, 3) := by decide +kernel
theorem dX6_init_20 : decode cX6_init 20 = .ok (.putfield 16, 3) := by decide +kernel
theorem dX6_init_23 : decode cX6_init 23 = .ok (.aload_n 0, 1) := by decide +kernel
theorem dX6_init_24 : decode cX6_init 24 = .ok (.iconst 0, 1) := by decide +kernel
theorem dX6_init_25 : decode cX6_init 25 = .ok (.putfield 20, 3) := by decide +kernel
theorem dX6_init_28 : decode cX6_init 28 = .ok (.aload_n 0, 1) := by decide +kernel
theorem dX6_init_29 : decode cX6_init 29 = .ok (.new 24, 3) := by decide +kernel
theorem dX6_init_32 : decode cX6_init 32 = .ok (.dup, 1) := by decide +kernel
theorem dX6_init_33 : decode cX6_init 33 = .ok (.invokespecial 26, 3) := by decide +kernel
theorem dX6_init_36 : decode cX6_init 36 = .ok (.putfield 27, 3) := by decide +kernel
theorem dX6_init_39 : decode cX6_init 39 = .ok (.iconst 0, 1) := by decide +kernel
theorem dX6_init_40 : decode cX6_init 40 = .ok (.istore_n 1, 1) := by decide +kernel
theorem dX6_init_41 : decode cX6_init 41 = .ok (.iload_n 1, 1) := by decide +kernel
theorem dX6_init_42 : decode cX6_init 42 = .ok (.aload_n 0, 1) := by decide +kernel
theorem dX6_init_43 : decode cX6_init 43 = .ok (.getfield 16, 3) := by decide +kernel
theorem dX6_init_46 : decode cX6_init 46 = .ok (.arraylength, 1) := by decide +kernel
theorem dX6_init_47 : decode cX6_init 47 = .ok (.if_icmp .ge 22, 3) := by decide +kernel
theorem dX6_init_50 : decode cX6_init 50 = .ok (.aload_n 0, 1) := by decide +kernel
theorem dX6_init_51 : decode cX6_init 51 = .ok (.getfield 16, 3) := by decide +kernel
theorem dX6_init_54 : decode cX6_init 54 = .ok (.iload_n 1, 1) := by decide +kernel
theorem dX6_init_55 : decode cX6_init 55 = .ok (.new 7, 3) := by decide +kernel
theorem dX6_init_58 : decode cX6_init 58 = .ok (.dup, 1) := by decide +kernel
theorem dX6_init_59 : decode cX6_init 59 = .ok (.invokespecial 9, 3) := by decide +kernel
theorem dX6_init_62 : decode cX6_init 62 = .ok (.aastore, 1) := by decide +kernel
theorem dX6_init_63 : decode cX6_init 63 = .ok (.iinc 1 1, 3) := by decide +kernel
theorem dX6_init_66 : decode cX6_init 66 = .ok (.goto (-25), 3) := by decide +kernel
theorem dX6_init_69 : decode cX6_init 69 = .ok (.return_, 1) := by decide +kernel
theorem dX6_date_0 : decode cX6_date 0 = .ok (.iload_n 1, 1) := by decide +kernel
theorem dX6_date_1 : decode cX6_date 1 = .ok (.iconst 0, 1) := by decide +kernel
theorem dX6_date_2 : decode cX6_date 2 = .ok (.sipush 29219, 3) := by decide +kernel
theorem dX6_date_5 : decode cX6_date 5 = .ok (.invokestatic 31, 3) := by decide +kernel
theorem dX6_date_8 : decode cX6_date 8 = .ok (.invokestatic 35, 3) := by decide +kernel
theorem dX6_date_11 : decode cX6_date 11 = .ok (.iload_n 1, 1) := by decide +kernel
theorem dX6_date_12 : decode cX6_date 12 = .ok (.invokestatic 39, 3) := by decide +kernel
theorem dX6_date_15 : decode cX6_date 15 = .ok (.ireturn, 1) := by decide +kernel
theorem dX6_day_0 : decode cX6_day 0 = .ok (.iload_n 1, 1) := by decide +kernel
theorem dX6_day_1 : decode cX6_day 1 = .ok (.iconst 0, 1) := by decide +kernel
theorem dX6_day_2 : decode cX6_day 2 = .ok (.bipush 79, 2) := by decide +kernel
theorem dX6_day_4 : decode cX6_day 4 = .ok (.invokestatic 31, 3) := by decide +kernel
theorem dX6_day_7 : decode cX6_day 7 = .ok (.invokestatic 35, 3) := by decide +kernel
theorem dX6_day_10 : decode cX6_day 10 = .ok (.iload_n 2, 1) := by decide +kernel
theorem dX6_day_11 : decode cX6_day 11 = .ok (.iconst 1, 1) := by decide +kernel
theorem dX6_day_12 : decode cX6_day 12 = .ok (.bipush 12, 2) := by decide +kernel
theorem dX6_day_14 : decode cX6_day 14 = .ok (.invokestatic 31, 3) := by decide +kernel
theorem dX6_day_17 : decode cX6_day 17 = .ok (.invokestatic 35, 3) := by decide +kernel
theorem dX6_day_20 : decode cX6_day 20 = .ok (.iload_n 3, 1) := by decide +kernel
theorem dX6_day_21 : decode cX6_day 21 = .ok (.iconst 1, 1) := by decide +kernel
theorem dX6_day_22 : decode cX6_day 22 = .ok (.iload_n 1, 1) := by decide +kernel
theorem dX6_day_23 : decode cX6_day 23 = .ok (.iload_n 2, 1) := by decide +kernel
theorem dX6_day_24 : decode cX6_day 24 = .ok (.invokestatic 45, 3) := by decide +kernel
theorem dX6_day_27 : decode cX6_day 27 = .ok (.invokestatic 31, 3) := by decide +kernel
theorem dX6_day_30 : decode cX6_day 30 = .ok (.invokestatic 35, 3) := by decide +kernel
theorem dX6_day_33 : decode cX6_day 33 = .ok (.iload_n 1, 1) := by decide +kernel
theorem dX6_day_34 : decode cX6_day 34 = .ok (.iload_n 2, 1) := by decide +kernel
theorem dX6_day_35 : decode cX6_day 35 = .ok (.iload_n 3, 1) := by decide +kernel
theorem dX6_day_36 : decode cX6_day 36 = .ok (.invokestatic 49, 3) := by decide +kernel
theorem dX6_day_39 : decode cX6_day 39 = .ok (.ireturn, 1) := by decide +kernel
theorem dX6_later_0 : decode cX6_later 0 = .ok (.iload_n 1, 1) := by decide +kernel
theorem dX6_later_1 : decode cX6_later 1 = .ok (.iconst 0, 1) := by decide +kernel
theorem dX6_later_2 : decode cX6_later 2 = .ok (.sipush 18262, 3) := by decide +kernel
theorem dX6_later_5 : decode cX6_later 5 = .ok (.invokestatic 31, 3) := by decide +kernel
theorem dX6_later_8 : decode cX6_later 8 = .ok (.invokestatic 35, 3) := by decide +kernel
theorem dX6_later_11 : decode cX6_later 11 = .ok (.iload_n 2, 1) := by decide +kernel
theorem dX6_later_12 : decode cX6_later 12 = .ok (.iconst 0, 1) := by decide +kernel
theorem dX6_later_13 : decode cX6_later 13 = .ok (.sipush 300, 3) := by decide +kernel
theorem dX6_later_16 : decode cX6_later 16 = .ok (.invokestatic 31, 3) := by decide +kernel
theorem dX6_later_19 : decode cX6_later 19 = .ok (.invokestatic 35, 3) := by decide +kernel
theorem dX6_later_22 : decode cX6_later 22 = .ok (.iload_n 1, 1) := by decide +kernel
theorem dX6_later_23 : decode cX6_later 23 = .ok (.iload_n 2, 1) := by decide +kernel
theorem dX6_later_24 : decode cX6_later 24 = .ok (.invokestatic 53, 3) := by decide +kernel
theorem dX6_later_27 : decode cX6_later 27 = .ok (.ireturn, 1) := by decide +kernel
theorem dX6_putOff_0 : decode cX6_putOff 0 = .ok (.iload_n 1, 1) := by decide +kernel
theorem dX6_putOff_1 : decode cX6_putOff 1 = .ok (.iconst 0, 1) := by decide +kernel
theorem dX6_putOff_2 : decode cX6_putOff 2 = .ok (.sipush 28854, 3) := by decide +kernel
theorem dX6_putOff_5 : decode cX6_putOff 5 = .ok (.invokestatic 31, 3) := by decide +kernel
theorem dX6_putOff_8 : decode cX6_putOff 8 = .ok (.invokestatic 35, 3) := by decide +kernel
theorem dX6_putOff_11 : decode cX6_putOff 11 = .ok (.aload_n 0, 1) := by decide +kernel
theorem dX6_putOff_12 : decode cX6_putOff 12 = .ok (.getfield 10, 3) := by decide +kernel
theorem dX6_putOff_15 : decode cX6_putOff 15 = .ok (.getfield 56, 3) := by decide +kernel
theorem dX6_putOff_18 : decode cX6_putOff 18 = .ok (.iload_n 1, 1) := by decide +kernel
theorem dX6_putOff_19 : decode cX6_putOff 19 = .ok (.invokevirtual 60, 3) := by decide +kernel
theorem dX6_putOff_22 : decode cX6_putOff 22 = .ok (.ireturn, 1) := by decide +kernel
theorem dX6_holiday_0 : decode cX6_holiday 0 = .ok (.iload_n 1, 1) := by decide +kernel
theorem dX6_holiday_1 : decode cX6_holiday 1 = .ok (.iconst 1, 1) := by decide +kernel
theorem dX6_holiday_2 : decode cX6_holiday 2 = .ok (.bipush 12, 2) := by decide +kernel
theorem dX6_holiday_4 : decode cX6_holiday 4 = .ok (.invokestatic 31, 3) := by decide +kernel
theorem dX6_holiday_7 : decode cX6_holiday 7 = .ok (.invokestatic 35, 3) := by decide +kernel
theorem dX6_holiday_10 : decode cX6_holiday 10 = .ok (.iload_n 2, 1) := by decide +kernel
theorem dX6_holiday_11 : decode cX6_holiday 11 = .ok (.iconst 1, 1) := by decide +kernel
theorem dX6_holiday_12 : decode cX6_holiday 12 = .ok (.iconst 0, 1) := by decide +kernel
theorem dX6_holiday_13 : decode cX6_holiday 13 = .ok (.iload_n 1, 1) := by decide +kernel
theorem dX6_holiday_14 : decode cX6_holiday 14 = .ok (.invokestatic 45, 3) := by decide +kernel
theorem dX6_holiday_17 : decode cX6_holiday 17 = .ok (.invokestatic 31, 3) := by decide +kernel
theorem dX6_holiday_20 : decode cX6_holiday 20 = .ok (.invokestatic 35, 3) := by decide +kernel
theorem dX6_holiday_23 : decode cX6_holiday 23 = .ok (.bipush 100, 2) := by decide +kernel
theorem dX6_holiday_25 : decode cX6_holiday 25 = .ok (.iload_n 1, 1) := by decide +kernel
theorem dX6_holiday_26 : decode cX6_holiday 26 = .ok (.imul, 1) := by decide +kernel
theorem dX6_holiday_27 : decode cX6_holiday 27 = .ok (.iload_n 2, 1) := by decide +kernel
theorem dX6_holiday_28 : decode cX6_holiday 28 = .ok (.iadd, 1) := by decide +kernel
theorem dX6_holiday_29 : decode cX6_holiday 29 = .ok (.istore_n 3, 1) := by decide +kernel
theorem dX6_holiday_30 : decode cX6_holiday 30 = .ok (.aload_n 0, 1) := by decide +kernel
theorem dX6_holiday_31 : decode cX6_holiday 31 = .ok (.getfield 10, 3) := by decide +kernel
theorem dX6_holiday_34 : decode cX6_holiday 34 = .ok (.getfield 65, 3) := by decide +kernel
theorem dX6_holiday_37 : decode cX6_holiday 37 = .ok (.ifCond .ne 21, 3) := by decide +kernel
theorem dX6_holiday_40 : decode cX6_holiday 40 = .ok (.aload_n 0, 1) := by decide +kernel
theorem dX6_holiday_41 : decode cX6_holiday 41 = .ok (.getfield 10, 3) := by decide +kernel
theorem dX6_holiday_44 : decode cX6_holiday 44 = .ok (.getfield 56, 3) := by decide +kernel
theorem dX6_holiday_47 : decode cX6_holiday 47 = .ok (.iload_n 3, 1) := by decide +kernel
theorem dX6_holiday_48 : decode cX6_holiday 48 = .ok (.invokevirtual 68, 3) := by decide +kernel
theorem dX6_holiday_51 : decode cX6_holiday 51 = .ok (.ifCond .eq 7, 3) := by decide +kernel
theorem dX6_holiday_54 : decode cX6_holiday 54 = .ok (.iconst 1, 1) := by decide +kernel
theorem dX6_holiday_55 : decode cX6_holiday 55 = .ok (.goto 4, 3) := by decide +kernel
theorem dX6_holiday_58 : decode cX6_holiday 58 = .ok (.iconst 0, 1) := by decide +kernel
theorem dX6_holiday_59 : decode cX6_holiday 59 = .ok (.invokestatic 72, 3) := by decide +kernel
theorem dX6_holiday_62 : decode cX6_holiday 62 = .ok (.aload_n 0, 1) := by decide +kernel
theorem dX6_holiday_63 : decode cX6_holiday 63 = .ok (.invokevirtual 75, 3) := by decide +kernel
theorem dX6_holiday_66 : decode cX6_holiday 66 = .ok (.aload_n 0, 1) := by decide +kernel
theorem dX6_holiday_67 : decode cX6_holiday 67 = .ok (.getfield 10, 3) := by decide +kernel
theorem dX6_holiday_70 : decode cX6_holiday 70 = .ok (.getfield 56, 3) := by decide +kernel
theorem dX6_holiday_73 : decode cX6_holiday 73 = .ok (.iload_n 3, 1) := by decide +kernel
theorem dX6_holiday_74 : decode cX6_holiday 74 = .ok (.invokevirtual 78, 3) := by decide +kernel
theorem dX6_holiday_77 : decode cX6_holiday 77 = .ok (.aload_n 0, 1) := by decide +kernel
theorem dX6_holiday_78 : decode cX6_holiday 78 = .ok (.getfield 10, 3) := by decide +kernel
theorem dX6_holiday_81 : decode cX6_holiday 81 = .ok (.getfield 56, 3) := by decide +kernel
theorem dX6_holiday_84 : decode cX6_holiday 84 = .ok (.getfield 82, 3) := by decide +kernel
theorem dX6_holiday_87 : decode cX6_holiday 87 = .ok (.ireturn, 1) := by decide +kernel
theorem dX6_file_0 : decode cX6_file 0 = .ok (.aload_n 0, 1) := by decide +kernel
theorem dX6_file_1 : decode cX6_file 1 = .ok (.getfield 10, 3) := by decide +kernel
theorem dX6_file_4 : decode cX6_file 4 = .ok (.getfield 65, 3) := by decide +kernel
theorem dX6_file_7 : decode cX6_file 7 = .ok (.bipush 10, 2) := by decide +kernel
theorem dX6_file_9 : decode cX6_file 9 = .ok (.if_icmp .ge 20, 3) := by decide +kernel
theorem dX6_file_12 : decode cX6_file 12 = .ok (.aload_n 0, 1) := by decide +kernel
theorem dX6_file_13 : decode cX6_file 13 = .ok (.getfield 10, 3) := by decide +kernel
theorem dX6_file_16 : decode cX6_file 16 = .ok (.getfield 85, 3) := by decide +kernel
theorem dX6_file_19 : decode cX6_file 19 = .ok (.sipush 18262, 3) := by decide +kernel
theorem dX6_file_22 : decode cX6_file 22 = .ok (.if_icmp .gt 7, 3) := by decide +kernel
theorem dX6_file_25 : decode cX6_file 25 = .ok (.iconst 1, 1) := by decide +kernel
theorem dX6_file_26 : decode cX6_file 26 = .ok (.goto 4, 3) := by decide +kernel
theorem dX6_file_29 : decode cX6_file 29 = .ok (.iconst 0, 1) := by decide +kernel
theorem dX6_file_30 : decode cX6_file 30 = .ok (.invokestatic 72, 3) := by decide +kernel
theorem dX6_file_33 : decode cX6_file 33 = .ok (.aload_n 0, 1) := by decide +kernel
theorem dX6_file_34 : decode cX6_file 34 = .ok (.invokevirtual 75, 3) := by decide +kernel
theorem dX6_file_37 : decode cX6_file 37 = .ok (.aload_n 0, 1) := by decide +kernel
theorem dX6_file_38 : decode cX6_file 38 = .ok (.getfield 10, 3) := by decide +kernel
theorem dX6_file_41 : decode cX6_file 41 = .ok (.aload_n 0, 1) := by decide +kernel
theorem dX6_file_42 : decode cX6_file 42 = .ok (.getfield 10, 3) := by decide +kernel
theorem dX6_file_45 : decode cX6_file 45 = .ok (.getfield 85, 3) := by decide +kernel
theorem dX6_file_48 : decode cX6_file 48 = .ok (.iload_n 1, 1) := by decide +kernel
theorem dX6_file_49 : decode cX6_file 49 = .ok (.invokevirtual 88, 3) := by decide +kernel
theorem dX6_file_52 : decode cX6_file 52 = .ok (.aload_n 0, 1) := by decide +kernel
theorem dX6_file_53 : decode cX6_file 53 = .ok (.getfield 10, 3) := by decide +kernel
theorem dX6_file_56 : decode cX6_file 56 = .ok (.getfield 65, 3) := by decide +kernel
theorem dX6_file_59 : decode cX6_file 59 = .ok (.iconst 1, 1) := by decide +kernel
theorem dX6_file_60 : decode cX6_file 60 = .ok (.isub, 1) := by decide +kernel
theorem dX6_file_61 : decode cX6_file 61 = .ok (.ireturn, 1) := by decide +kernel
theorem dX6_pass_0 : decode cX6_pass 0 = .ok (.iload_n 1, 1) := by decide +kernel
theorem dX6_pass_1 : decode cX6_pass 1 = .ok (.iconst 1, 1) := by decide +kernel
theorem dX6_pass_2 : decode cX6_pass 2 = .ok (.sipush 4000, 3) := by decide +kernel
theorem dX6_pass_5 : decode cX6_pass 5 = .ok (.invokestatic 31, 3) := by decide +kernel
theorem dX6_pass_8 : decode cX6_pass 8 = .ok (.invokestatic 35, 3) := by decide +kernel
theorem dX6_pass_11 : decode cX6_pass 11 = .ok (.aload_n 0, 1) := by decide +kernel
theorem dX6_pass_12 : decode cX6_pass 12 = .ok (.getfield 10, 3) := by decide +kernel
theorem dX6_pass_15 : decode cX6_pass 15 = .ok (.getfield 85, 3) := by decide +kernel
theorem dX6_pass_18 : decode cX6_pass 18 = .ok (.iload_n 1, 1) := by decide +kernel
theorem dX6_pass_19 : decode cX6_pass 19 = .ok (.iadd, 1) := by decide +kernel
theorem dX6_pass_20 : decode cX6_pass 20 = .ok (.sipush 27758, 3) := by decide +kernel
theorem dX6_pass_23 : decode cX6_pass 23 = .ok (.if_icmp .gt 7, 3) := by decide +kernel
theorem dX6_pass_26 : decode cX6_pass 26 = .ok (.iconst 1, 1) := by decide +kernel
theorem dX6_pass_27 : decode cX6_pass 27 = .ok (.goto 4, 3) := by decide +kernel
theorem dX6_pass_30 : decode cX6_pass 30 = .ok (.iconst 0, 1) := by decide +kernel
theorem dX6_pass_31 : decode cX6_pass 31 = .ok (.invokestatic 72, 3) := by decide +kernel
theorem dX6_pass_34 : decode cX6_pass 34 = .ok (.aload_n 0, 1) := by decide +kernel
theorem dX6_pass_35 : decode cX6_pass 35 = .ok (.invokevirtual 75, 3) := by decide +kernel
theorem dX6_pass_38 : decode cX6_pass 38 = .ok (.aload_n 0, 1) := by decide +kernel
theorem dX6_pass_39 : decode cX6_pass 39 = .ok (.getfield 10, 3) := by decide +kernel
theorem dX6_pass_42 : decode cX6_pass 42 = .ok (.iload_n 1, 1) := by decide +kernel
theorem dX6_pass_43 : decode cX6_pass 43 = .ok (.invokevirtual 92, 3) := by decide +kernel
theorem dX6_pass_46 : decode cX6_pass 46 = .ok (.istore_n 2, 1) := by decide +kernel
theorem dX6_pass_47 : decode cX6_pass 47 = .ok (.aload_n 0, 1) := by decide +kernel
theorem dX6_pass_48 : decode cX6_pass 48 = .ok (.getfield 10, 3) := by decide +kernel
theorem dX6_pass_51 : decode cX6_pass 51 = .ok (.dup, 1) := by decide +kernel
theorem dX6_pass_52 : decode cX6_pass 52 = .ok (.getfield 85, 3) := by decide +kernel
theorem dX6_pass_55 : decode cX6_pass 55 = .ok (.iload_n 1, 1) := by decide +kernel
theorem dX6_pass_56 : decode cX6_pass 56 = .ok (.iadd, 1) := by decide +kernel
theorem dX6_pass_57 : decode cX6_pass 57 = .ok (.putfield 85, 3) := by decide +kernel
theorem dX6_pass_60 : decode cX6_pass 60 = .ok (.iload_n 2, 1) := by decide +kernel
theorem dX6_pass_61 : decode cX6_pass 61 = .ok (.ireturn, 1) := by decide +kernel
theorem dX6_pay_0 : decode cX6_pay 0 = .ok (.aload_n 0, 1) := by decide +kernel
theorem dX6_pay_1 : decode cX6_pay 1 = .ok (.iload_n 1, 1) := by decide +kernel
theorem dX6_pay_2 : decode cX6_pay 2 = .ok (.invokevirtual 95, 3) := by decide +kernel
theorem dX6_pay_5 : decode cX6_pay 5 = .ok (.astore_n 2, 1) := by decide +kernel
theorem dX6_pay_6 : decode cX6_pay 6 = .ok (.aload_n 0, 1) := by decide +kernel
theorem dX6_pay_7 : decode cX6_pay 7 = .ok (.getfield 10, 3) := by decide +kernel
theorem dX6_pay_10 : decode cX6_pay 10 = .ok (.aload_n 2, 1) := by decide +kernel
theorem dX6_pay_11 : decode cX6_pay 11 = .ok (.invokevirtual 99, 3) := by decide +kernel
theorem dX6_pay_14 : decode cX6_pay 14 = .ok (.invokestatic 72, 3) := by decide +kernel
theorem dX6_pay_17 : decode cX6_pay 17 = .ok (.aload_n 0, 1) := by decide +kernel
theorem dX6_pay_18 : decode cX6_pay 18 = .ok (.invokevirtual 75, 3) := by decide +kernel
theorem dX6_pay_21 : decode cX6_pay 21 = .ok (.aload_n 0, 1) := by decide +kernel
theorem dX6_pay_22 : decode cX6_pay 22 = .ok (.getfield 10, 3) := by decide +kernel
theorem dX6_pay_25 : decode cX6_pay 25 = .ok (.aload_n 2, 1) := by decide +kernel
theorem dX6_pay_26 : decode cX6_pay 26 = .ok (.invokevirtual 103, 3) := by decide +kernel
theorem dX6_pay_29 : decode cX6_pay 29 = .ok (.ireturn, 1) := by decide +kernel
theorem dX6_payAll_0 : decode cX6_payAll 0 = .ok (.aload_n 0, 1) := by decide +kernel
theorem dX6_payAll_1 : decode cX6_payAll 1 = .ok (.invokevirtual 75, 3) := by decide +kernel
theorem dX6_payAll_4 : decode cX6_payAll 4 = .ok (.aload_n 0, 1) := by decide +kernel
theorem dX6_payAll_5 : decode cX6_payAll 5 = .ok (.getfield 10, 3) := by decide +kernel
theorem dX6_payAll_8 : decode cX6_payAll 8 = .ok (.invokevirtual 107, 3) := by decide +kernel
theorem dX6_payAll_11 : decode cX6_payAll 11 = .ok (.ireturn, 1) := by decide +kernel
theorem dX6_revive_0 : decode cX6_revive 0 = .ok (.aload_n 0, 1) := by decide +kernel
theorem dX6_revive_1 : decode cX6_revive 1 = .ok (.iload_n 1, 1) := by decide +kernel
theorem dX6_revive_2 : decode cX6_revive 2 = .ok (.invokevirtual 95, 3) := by decide +kernel
theorem dX6_revive_5 : decode cX6_revive 5 = .ok (.astore_n 2, 1) := by decide +kernel
theorem dX6_revive_6 : decode cX6_revive 6 = .ok (.aload_n 0, 1) := by decide +kernel
theorem dX6_revive_7 : decode cX6_revive 7 = .ok (.getfield 10, 3) := by decide +kernel
theorem dX6_revive_10 : decode cX6_revive 10 = .ok (.aload_n 2, 1) := by decide +kernel
theorem dX6_revive_11 : decode cX6_revive 11 = .ok (.invokevirtual 111, 3) := by decide +kernel
theorem dX6_revive_14 : decode cX6_revive 14 = .ok (.invokestatic 72, 3) := by decide +kernel
theorem dX6_revive_17 : decode cX6_revive 17 = .ok (.aload_n 0, 1) := by decide +kernel
theorem dX6_revive_18 : decode cX6_revive 18 = .ok (.invokevirtual 75, 3) := by decide +kernel
theorem dX6_revive_21 : decode cX6_revive 21 = .ok (.aload_n 0, 1) := by decide +kernel
theorem dX6_revive_22 : decode cX6_revive 22 = .ok (.getfield 10, 3) := by decide +kernel
theorem dX6_revive_25 : decode cX6_revive 25 = .ok (.aload_n 2, 1) := by decide +kernel
theorem dX6_revive_26 : decode cX6_revive 26 = .ok (.invokevirtual 114, 3) := by decide +kernel
theorem dX6_revive_29 : decode cX6_revive 29 = .ok (.ireturn, 1) := by decide +kernel
theorem dX6_use_0 : decode cX6_use 0 = .ok (.aload_n 0, 1) := by decide +kernel
theorem dX6_use_1 : decode cX6_use 1 = .ok (.iload_n 1, 1) := by decide +kernel
theorem dX6_use_2 : decode cX6_use 2 = .ok (.invokevirtual 95, 3) := by decide +kernel
theorem dX6_use_5 : decode cX6_use 5 = .ok (.astore_n 3, 1) := by decide +kernel
theorem dX6_use_6 : decode cX6_use 6 = .ok (.iload_n 2, 1) := by decide +kernel
theorem dX6_use_7 : decode cX6_use 7 = .ok (.iconst 0, 1) := by decide +kernel
theorem dX6_use_8 : decode cX6_use 8 = .ok (.bipush 9, 2) := by decide +kernel
theorem dX6_use_10 : decode cX6_use 10 = .ok (.invokestatic 31, 3) := by decide +kernel
theorem dX6_use_13 : decode cX6_use 13 = .ok (.invokestatic 35, 3) := by decide +kernel
theorem dX6_use_16 : decode cX6_use 16 = .ok (.aload_n 0, 1) := by decide +kernel
theorem dX6_use_17 : decode cX6_use 17 = .ok (.getfield 10, 3) := by decide +kernel
theorem dX6_use_20 : decode cX6_use 20 = .ok (.aload_n 3, 1) := by decide +kernel
theorem dX6_use_21 : decode cX6_use 21 = .ok (.iload_n 2, 1) := by decide +kernel
theorem dX6_use_22 : decode cX6_use 22 = .ok (.invokevirtual 117, 3) := by decide +kernel
theorem dX6_use_25 : decode cX6_use 25 = .ok (.invokestatic 72, 3) := by decide +kernel
theorem dX6_use_28 : decode cX6_use 28 = .ok (.aload_n 0, 1) := by decide +kernel
theorem dX6_use_29 : decode cX6_use 29 = .ok (.invokevirtual 75, 3) := by decide +kernel
theorem dX6_use_32 : decode cX6_use 32 = .ok (.aload_n 3, 1) := by decide +kernel
theorem dX6_use_33 : decode cX6_use 33 = .ok (.iload_n 2, 1) := by decide +kernel
theorem dX6_use_34 : decode cX6_use 34 = .ok (.aload_n 0, 1) := by decide +kernel
theorem dX6_use_35 : decode cX6_use 35 = .ok (.getfield 10, 3) := by decide +kernel
theorem dX6_use_38 : decode cX6_use 38 = .ok (.getfield 85, 3) := by decide +kernel
theorem dX6_use_41 : decode cX6_use 41 = .ok (.invokevirtual 121, 3) := by decide +kernel
theorem dX6_use_44 : decode cX6_use 44 = .ok (.aload_n 3, 1) := by decide +kernel
theorem dX6_use_45 : decode cX6_use 45 = .ok (.invokevirtual 127, 3) := by decide +kernel
theorem dX6_use_48 : decode cX6_use 48 = .ok (.ireturn, 1) := by decide +kernel
theorem dX6_setFees_0 : decode cX6_setFees 0 = .ok (.iload_n 1, 1) := by decide +kernel
theorem dX6_setFees_1 : decode cX6_setFees 1 = .ok (.iconst 0, 1) := by decide +kernel
theorem dX6_setFees_2 : decode cX6_setFees 2 = .ok (.sipush 9999, 3) := by decide +kernel
theorem dX6_setFees_5 : decode cX6_setFees 5 = .ok (.invokestatic 31, 3) := by decide +kernel
theorem dX6_setFees_8 : decode cX6_setFees 8 = .ok (.invokestatic 35, 3) := by decide +kernel
theorem dX6_setFees_11 : decode cX6_setFees 11 = .ok (.iload_n 2, 1) := by decide +kernel
theorem dX6_setFees_12 : decode cX6_setFees 12 = .ok (.iconst 0, 1) := by decide +kernel
theorem dX6_setFees_13 : decode cX6_setFees 13 = .ok (.sipush 999, 3) := by decide +kernel
theorem dX6_setFees_16 : decode cX6_setFees 16 = .ok (.invokestatic 31, 3) := by decide +kernel
theorem dX6_setFees_19 : decode cX6_setFees 19 = .ok (.invokestatic 35, 3) := by decide +kernel
theorem dX6_setFees_22 : decode cX6_setFees 22 = .ok (.iload_n 3, 1) := by decide +kernel
theorem dX6_setFees_23 : decode cX6_setFees 23 = .ok (.iconst 0, 1) := by decide +kernel
theorem dX6_setFees_24 : decode cX6_setFees 24 = .ok (.bipush 100, 2) := by decide +kernel
theorem dX6_setFees_26 : decode cX6_setFees 26 = .ok (.invokestatic 31, 3) := by decide +kernel
theorem dX6_setFees_29 : decode cX6_setFees 29 = .ok (.invokestatic 35, 3) := by decide +kernel
theorem dX6_setFees_32 : decode cX6_setFees 32 = .ok (.iload 4, 2) := by decide +kernel
theorem dX6_setFees_34 : decode cX6_setFees 34 = .ok (.iconst 0, 1) := by decide +kernel
theorem dX6_setFees_35 : decode cX6_setFees 35 = .ok (.sipush 9999, 3) := by decide +kernel
theorem dX6_setFees_38 : decode cX6_setFees 38 = .ok (.invokestatic 31, 3) := by decide +kernel
theorem dX6_setFees_41 : decode cX6_setFees 41 = .ok (.invokestatic 35, 3) := by decide +kernel
theorem dX6_setFees_44 : decode cX6_setFees 44 = .ok (.aload_n 0, 1) := by decide +kernel
theorem dX6_setFees_45 : decode cX6_setFees 45 = .ok (.invokevirtual 75, 3) := by decide +kernel
theorem dX6_setFees_48 : decode cX6_setFees 48 = .ok (.aload_n 0, 1) := by decide +kernel
theorem dX6_setFees_49 : decode cX6_setFees 49 = .ok (.getfield 10, 3) := by decide +kernel
theorem dX6_setFees_52 : decode cX6_setFees 52 = .ok (.getfield 130, 3) := by decide +kernel
theorem dX6_setFees_55 : decode cX6_setFees 55 = .ok (.getfield 134, 3) := by decide +kernel
theorem dX6_setFees_58 : decode cX6_setFees 58 = .ok (.istore 5, 2) := by decide +kernel
theorem dX6_setFees_60 : decode cX6_setFees 60 = .ok (.aload_n 0, 1) := by decide +kernel
theorem dX6_setFees_61 : decode cX6_setFees 61 = .ok (.getfield 10, 3) := by decide +kernel
theorem dX6_setFees_64 : decode cX6_setFees 64 = .ok (.getfield 130, 3) := by decide +kernel
theorem dX6_setFees_67 : decode cX6_setFees 67 = .ok (.iload_n 1, 1) := by decide +kernel
theorem dX6_setFees_68 : decode cX6_setFees 68 = .ok (.iload_n 2, 1) := by decide +kernel
theorem dX6_setFees_69 : decode cX6_setFees 69 = .ok (.iload_n 3, 1) := by decide +kernel
theorem dX6_setFees_70 : decode cX6_setFees 70 = .ok (.iload 4, 2) := by decide +kernel
theorem dX6_setFees_72 : decode cX6_setFees 72 = .ok (.invokevirtual 139, 3) := by decide +kernel
theorem dX6_setFees_75 : decode cX6_setFees 75 = .ok (.iload 5, 2) := by decide +kernel
theorem dX6_setFees_77 : decode cX6_setFees 77 = .ok (.ireturn, 1) := by decide +kernel
theorem dX6_right_0 : decode cX6_right 0 = .ok (.aload_n 0, 1) := by decide +kernel
theorem dX6_right_1 : decode cX6_right 1 = .ok (.iload_n 1, 1) := by decide +kernel
theorem dX6_right_2 : decode cX6_right 2 = .ok (.invokevirtual 95, 3) := by decide +kernel
theorem dX6_right_5 : decode cX6_right 5 = .ok (.astore_n 3, 1) := by decide +kernel
theorem dX6_right_6 : decode cX6_right 6 = .ok (.iload_n 2, 1) := by decide +kernel
theorem dX6_right_7 : decode cX6_right 7 = .ok (.iconst 0, 1) := by decide +kernel
theorem dX6_right_8 : decode cX6_right 8 = .ok (.bipush 12, 2) := by decide +kernel
theorem dX6_right_10 : decode cX6_right 10 = .ok (.invokestatic 31, 3) := by decide +kernel
theorem dX6_right_13 : decode cX6_right 13 = .ok (.invokestatic 35, 3) := by decide +kernel
theorem dX6_right_16 : decode cX6_right 16 = .ok (.aload_n 0, 1) := by decide +kernel
theorem dX6_right_17 : decode cX6_right 17 = .ok (.getfield 10, 3) := by decide +kernel
theorem dX6_right_20 : decode cX6_right 20 = .ok (.aload_n 3, 1) := by decide +kernel
theorem dX6_right_21 : decode cX6_right 21 = .ok (.iload_n 2, 1) := by decide +kernel
theorem dX6_right_22 : decode cX6_right 22 = .ok (.invokevirtual 143, 3) := by decide +kernel
theorem dX6_right_25 : decode cX6_right 25 = .ok (.ireturn, 1) := by decide +kernel
theorem dX6_due_0 : decode cX6_due 0 = .ok (.aload_n 0, 1) := by decide +kernel
theorem dX6_due_1 : decode cX6_due 1 = .ok (.iload_n 1, 1) := by decide +kernel
theorem dX6_due_2 : decode cX6_due 2 = .ok (.invokevirtual 95, 3) := by decide +kernel
theorem dX6_due_5 : decode cX6_due 5 = .ok (.astore 4, 2) := by decide +kernel
theorem dX6_due_7 : decode cX6_due 7 = .ok (.iload_n 2, 1) := by decide +kernel
theorem dX6_due_8 : decode cX6_due 8 = .ok (.iconst 1, 1) := by decide +kernel
theorem dX6_due_9 : decode cX6_due 9 = .ok (.bipush 19, 2) := by decide +kernel
theorem dX6_due_11 : decode cX6_due 11 = .ok (.invokestatic 31, 3) := by decide +kernel
theorem dX6_due_14 : decode cX6_due 14 = .ok (.invokestatic 35, 3) := by decide +kernel
theorem dX6_due_17 : decode cX6_due 17 = .ok (.iload_n 3, 1) := by decide +kernel
theorem dX6_due_18 : decode cX6_due 18 = .ok (.ifCond .eq 12, 3) := by decide +kernel
theorem dX6_due_21 : decode cX6_due 21 = .ok (.aload 4, 2) := by decide +kernel
theorem dX6_due_23 : decode cX6_due 23 = .ok (.iload_n 2, 1) := by decide +kernel
theorem dX6_due_24 : decode cX6_due 24 = .ok (.invokevirtual 147, 3) := by decide +kernel
theorem dX6_due_27 : decode cX6_due 27 = .ok (.goto 9, 3) := by decide +kernel
theorem dX6_due_30 : decode cX6_due 30 = .ok (.aload 4, 2) := by decide +kernel
theorem dX6_due_32 : decode cX6_due 32 = .ok (.iload_n 2, 1) := by decide +kernel
theorem dX6_due_33 : decode cX6_due 33 = .ok (.invokevirtual 150, 3) := by decide +kernel
theorem dX6_due_36 : decode cX6_due 36 = .ok (.ireturn, 1) := by decide +kernel
theorem dX6_stood_0 : decode cX6_stood 0 = .ok (.aload_n 0, 1) := by decide +kernel
theorem dX6_stood_1 : decode cX6_stood 1 = .ok (.iload_n 1, 1) := by decide +kernel
theorem dX6_stood_2 : decode cX6_stood 2 = .ok (.invokevirtual 95, 3) := by decide +kernel
theorem dX6_stood_5 : decode cX6_stood 5 = .ok (.astore_n 3, 1) := by decide +kernel
theorem dX6_stood_6 : decode cX6_stood 6 = .ok (.iload_n 2, 1) := by decide +kernel
theorem dX6_stood_7 : decode cX6_stood 7 = .ok (.iconst 0, 1) := by decide +kernel
theorem dX6_stood_8 : decode cX6_stood 8 = .ok (.aload_n 0, 1) := by decide +kernel
theorem dX6_stood_9 : decode cX6_stood 9 = .ok (.getfield 10, 3) := by decide +kernel
theorem dX6_stood_12 : decode cX6_stood 12 = .ok (.getfield 85, 3) := by decide +kernel
theorem dX6_stood_15 : decode cX6_stood 15 = .ok (.invokestatic 31, 3) := by decide +kernel
theorem dX6_stood_18 : decode cX6_stood 18 = .ok (.invokestatic 35, 3) := by decide +kernel
theorem dX6_stood_21 : decode cX6_stood 21 = .ok (.aload_n 3, 1) := by decide +kernel
theorem dX6_stood_22 : decode cX6_stood 22 = .ok (.iload_n 2, 1) := by decide +kernel
theorem dX6_stood_23 : decode cX6_stood 23 = .ok (.aload_n 0, 1) := by decide +kernel
theorem dX6_stood_24 : decode cX6_stood 24 = .ok (.getfield 10, 3) := by decide +kernel
theorem dX6_stood_27 : decode cX6_stood 27 = .ok (.getfield 85, 3) := by decide +kernel
theorem dX6_stood_30 : decode cX6_stood 30 = .ok (.invokevirtual 153, 3) := by decide +kernel
theorem dX6_stood_33 : decode cX6_stood 33 = .ok (.ireturn, 1) := by decide +kernel
theorem dX6_covered_0 : decode cX6_covered 0 = .ok (.aload_n 0, 1) := by decide +kernel
theorem dX6_covered_1 : decode cX6_covered 1 = .ok (.iload_n 1, 1) := by decide +kernel
theorem dX6_covered_2 : decode cX6_covered 2 = .ok (.invokevirtual 95, 3) := by decide +kernel
theorem dX6_covered_5 : decode cX6_covered 5 = .ok (.astore_n 3, 1) := by decide +kernel
theorem dX6_covered_6 : decode cX6_covered 6 = .ok (.iload_n 2, 1) := by decide +kernel
theorem dX6_covered_7 : decode cX6_covered 7 = .ok (.iconst 0, 1) := by decide +kernel
theorem dX6_covered_8 : decode cX6_covered 8 = .ok (.aload_n 0, 1) := by decide +kernel
theorem dX6_covered_9 : decode cX6_covered 9 = .ok (.getfield 10, 3) := by decide +kernel
theorem dX6_covered_12 : decode cX6_covered 12 = .ok (.getfield 85, 3) := by decide +kernel
theorem dX6_covered_15 : decode cX6_covered 15 = .ok (.invokestatic 31, 3) := by decide +kernel
theorem dX6_covered_18 : decode cX6_covered 18 = .ok (.invokestatic 35, 3) := by decide +kernel
theorem dX6_covered_21 : decode cX6_covered 21 = .ok (.aload_n 3, 1) := by decide +kernel
theorem dX6_covered_22 : decode cX6_covered 22 = .ok (.iload_n 2, 1) := by decide +kernel
theorem dX6_covered_23 : decode cX6_covered 23 = .ok (.aload_n 0, 1) := by decide +kernel
theorem dX6_covered_24 : decode cX6_covered 24 = .ok (.getfield 10, 3) := by decide +kernel
theorem dX6_covered_27 : decode cX6_covered 27 = .ok (.getfield 85, 3) := by decide +kernel
theorem dX6_covered_30 : decode cX6_covered 30 = .ok (.invokevirtual 157, 3) := by decide +kernel
theorem dX6_covered_33 : decode cX6_covered 33 = .ok (.ireturn, 1) := by decide +kernel
theorem dX6_user_0 : decode cX6_user 0 = .ok (.aload_n 0, 1) := by decide +kernel
theorem dX6_user_1 : decode cX6_user 1 = .ok (.iload_n 1, 1) := by decide +kernel
theorem dX6_user_2 : decode cX6_user 2 = .ok (.invokevirtual 95, 3) := by decide +kernel
theorem dX6_user_5 : decode cX6_user 5 = .ok (.astore_n 3, 1) := by decide +kernel
theorem dX6_user_6 : decode cX6_user 6 = .ok (.iload_n 2, 1) := by decide +kernel
theorem dX6_user_7 : decode cX6_user 7 = .ok (.iconst 0, 1) := by decide +kernel
theorem dX6_user_8 : decode cX6_user 8 = .ok (.bipush 9, 2) := by decide +kernel
theorem dX6_user_10 : decode cX6_user 10 = .ok (.invokestatic 31, 3) := by decide +kernel
theorem dX6_user_13 : decode cX6_user 13 = .ok (.invokestatic 35, 3) := by decide +kernel
theorem dX6_user_16 : decode cX6_user 16 = .ok (.aload_n 3, 1) := by decide +kernel
theorem dX6_user_17 : decode cX6_user 17 = .ok (.iload_n 2, 1) := by decide +kernel
theorem dX6_user_18 : decode cX6_user 18 = .ok (.invokevirtual 160, 3) := by decide +kernel
theorem dX6_user_21 : decode cX6_user 21 = .ok (.ireturn, 1) := by decide +kernel
theorem dX6_value_0 : decode cX6_value 0 = .ok (.iload_n 1, 1) := by decide +kernel
theorem dX6_value_1 : decode cX6_value 1 = .ok (.iconst 0, 1) := by decide +kernel
theorem dX6_value_2 : decode cX6_value 2 = .ok (.bipush 11, 2) := by decide +kernel
theorem dX6_value_4 : decode cX6_value 4 = .ok (.invokestatic 31, 3) := by decide +kernel
theorem dX6_value_7 : decode cX6_value 7 = .ok (.invokestatic 35, 3) := by decide +kernel
theorem dX6_value_10 : decode cX6_value 10 = .ok (.aload_n 0, 1) := by decide +kernel
theorem dX6_value_11 : decode cX6_value 11 = .ok (.getfield 10, 3) := by decide +kernel
theorem dX6_value_14 : decode cX6_value 14 = .ok (.iload_n 1, 1) := by decide +kernel
theorem dX6_value_15 : decode cX6_value 15 = .ok (.invokevirtual 163, 3) := by decide +kernel
theorem dX6_value_18 : decode cX6_value 18 = .ok (.ireturn, 1) := by decide +kernel
theorem dX6_nextDue_0 : decode cX6_nextDue 0 = .ok (.aload_n 0, 1) := by decide +kernel
theorem dX6_nextDue_1 : decode cX6_nextDue 1 = .ok (.getfield 10, 3) := by decide +kernel
theorem dX6_nextDue_4 : decode cX6_nextDue 4 = .ok (.invokevirtual 166, 3) := by decide +kernel
theorem dX6_nextDue_7 : decode cX6_nextDue 7 = .ok (.ireturn, 1) := by decide +kernel
theorem dX6_costs_0 : decode cX6_costs 0 = .ok (.iload_n 1, 1) := by decide +kernel
theorem dX6_costs_1 : decode cX6_costs 1 = .ok (.iconst 0, 1) := by decide +kernel
theorem dX6_costs_2 : decode cX6_costs 2 = .ok (.sipush 4000, 3) := by decide +kernel
theorem dX6_costs_5 : decode cX6_costs 5 = .ok (.invokestatic 31, 3) := by decide +kernel
theorem dX6_costs_8 : decode cX6_costs 8 = .ok (.invokestatic 35, 3) := by decide +kernel
theorem dX6_costs_11 : decode cX6_costs 11 = .ok (.aload_n 0, 1) := by decide +kernel
theorem dX6_costs_12 : decode cX6_costs 12 = .ok (.getfield 10, 3) := by decide +kernel
theorem dX6_costs_15 : decode cX6_costs 15 = .ok (.iload_n 1, 1) := by decide +kernel
theorem dX6_costs_16 : decode cX6_costs 16 = .ok (.invokevirtual 169, 3) := by decide +kernel
theorem dX6_costs_19 : decode cX6_costs 19 = .ok (.ireturn, 1) := by decide +kernel
theorem dX6_lapsing_0 : decode cX6_lapsing 0 = .ok (.iload_n 1, 1) := by decide +kernel
theorem dX6_lapsing_1 : decode cX6_lapsing 1 = .ok (.iconst 0, 1) := by decide +kernel
theorem dX6_lapsing_2 : decode cX6_lapsing 2 = .ok (.sipush 4000, 3) := by decide +kernel
theorem dX6_lapsing_5 : decode cX6_lapsing 5 = .ok (.invokestatic 31, 3) := by decide +kernel
theorem dX6_lapsing_8 : decode cX6_lapsing 8 = .ok (.invokestatic 35, 3) := by decide +kernel
theorem dX6_lapsing_11 : decode cX6_lapsing 11 = .ok (.aload_n 0, 1) := by decide +kernel
theorem dX6_lapsing_12 : decode cX6_lapsing 12 = .ok (.getfield 10, 3) := by decide +kernel
theorem dX6_lapsing_15 : decode cX6_lapsing 15 = .ok (.iload_n 1, 1) := by decide +kernel
theorem dX6_lapsing_16 : decode cX6_lapsing 16 = .ok (.invokevirtual 92, 3) := by decide +kernel
theorem dX6_lapsing_19 : decode cX6_lapsing 19 = .ok (.ireturn, 1) := by decide +kernel
theorem dX6_share_0 : decode cX6_share 0 = .ok (.aload_n 0, 1) := by decide +kernel
theorem dX6_share_1 : decode cX6_share 1 = .ok (.iload_n 1, 1) := by decide +kernel
theorem dX6_share_2 : decode cX6_share 2 = .ok (.invokevirtual 95, 3) := by decide +kernel
theorem dX6_share_5 : decode cX6_share 5 = .ok (.astore_n 2, 1) := by decide +kernel
theorem dX6_share_6 : decode cX6_share 6 = .ok (.aload_n 2, 1) := by decide +kernel
theorem dX6_share_7 : decode cX6_share 7 = .ok (.aload_n 0, 1) := by decide +kernel
theorem dX6_share_8 : decode cX6_share 8 = .ok (.getfield 10, 3) := by decide +kernel
theorem dX6_share_11 : decode cX6_share 11 = .ok (.getfield 85, 3) := by decide +kernel
theorem dX6_share_14 : decode cX6_share 14 = .ok (.invokevirtual 172, 3) := by decide +kernel
theorem dX6_share_17 : decode cX6_share 17 = .ok (.istore_n 3, 1) := by decide +kernel
theorem dX6_share_18 : decode cX6_share 18 = .ok (.iload_n 3, 1) := by decide +kernel
theorem dX6_share_19 : decode cX6_share 19 = .ok (.iconst 1, 1) := by decide +kernel
theorem dX6_share_20 : decode cX6_share 20 = .ok (.if_icmp .ge 5, 3) := by decide +kernel
theorem dX6_share_23 : decode cX6_share 23 = .ok (.dconst 0, 1) := by decide +kernel
theorem dX6_share_24 : decode cX6_share 24 = .ok (.dreturn, 1) := by decide +kernel
theorem dX6_share_25 : decode cX6_share 25 = .ok (.aload_n 2, 1) := by decide +kernel
theorem dX6_share_26 : decode cX6_share 26 = .ok (.aload_n 0, 1) := by decide +kernel
theorem dX6_share_27 : decode cX6_share 27 = .ok (.getfield 10, 3) := by decide +kernel
theorem dX6_share_30 : decode cX6_share 30 = .ok (.getfield 85, 3) := by decide +kernel
theorem dX6_share_33 : decode cX6_share 33 = .ok (.invokevirtual 175, 3) := by decide +kernel
theorem dX6_share_36 : decode cX6_share 36 = .ok (.i2d, 1) := by decide +kernel
theorem dX6_share_37 : decode cX6_share 37 = .ok (.iload_n 3, 1) := by decide +kernel
theorem dX6_share_38 : decode cX6_share 38 = .ok (.i2d, 1) := by decide +kernel
theorem dX6_share_39 : decode cX6_share 39 = .ok (.ddiv, 1) := by decide +kernel
theorem dX6_share_40 : decode cX6_share 40 = .ok (.dreturn, 1) := by decide +kernel
theorem dX6_append_0 : decode cX6_append 0 = .ok (.iload_n 1, 1) := by decide +kernel
theorem dX6_append_1 : decode cX6_append 1 = .ok (.iconst 0, 1) := by decide +kernel
theorem dX6_append_2 : decode cX6_append 2 = .ok (.bipush 127, 2) := by decide +kernel
theorem dX6_append_4 : decode cX6_append 4 = .ok (.invokestatic 31, 3) := by decide +kernel
theorem dX6_append_7 : decode cX6_append 7 = .ok (.invokestatic 35, 3) := by decide +kernel
theorem dX6_append_10 : decode cX6_append 10 = .ok (.aload_n 0, 1) := by decide +kernel
theorem dX6_append_11 : decode cX6_append 11 = .ok (.getfield 27, 3) := by decide +kernel
theorem dX6_append_14 : decode cX6_append 14 = .ok (.getfield 178, 3) := by decide +kernel
theorem dX6_append_17 : decode cX6_append 17 = .ok (.bipush 100, 2) := by decide +kernel
theorem dX6_append_19 : decode cX6_append 19 = .ok (.if_icmp .ge 7, 3) := by decide +kernel
theorem dX6_append_22 : decode cX6_append 22 = .ok (.iconst 1, 1) := by decide +kernel
theorem dX6_append_23 : decode cX6_append 23 = .ok (.goto 4, 3) := by decide +kernel
theorem dX6_append_26 : decode cX6_append 26 = .ok (.iconst 0, 1) := by decide +kernel
theorem dX6_append_27 : decode cX6_append 27 = .ok (.invokestatic 72, 3) := by decide +kernel
theorem dX6_append_30 : decode cX6_append 30 = .ok (.aload_n 0, 1) := by decide +kernel
theorem dX6_append_31 : decode cX6_append 31 = .ok (.getfield 27, 3) := by decide +kernel
theorem dX6_append_34 : decode cX6_append 34 = .ok (.iload_n 1, 1) := by decide +kernel
theorem dX6_append_35 : decode cX6_append 35 = .ok (.invokevirtual 181, 3) := by decide +kernel
theorem dX6_append_38 : decode cX6_append 38 = .ok (.aload_n 0, 1) := by decide +kernel
theorem dX6_append_39 : decode cX6_append 39 = .ok (.getfield 27, 3) := by decide +kernel
theorem dX6_append_42 : decode cX6_append 42 = .ok (.getfield 178, 3) := by decide +kernel
theorem dX6_append_45 : decode cX6_append 45 = .ok (.ireturn, 1) := by decide +kernel
theorem dX6_clearText_0 : decode cX6_clearText 0 = .ok (.aload_n 0, 1) := by decide +kernel
theorem dX6_clearText_1 : decode cX6_clearText 1 = .ok (.getfield 27, 3) := by decide +kernel
theorem dX6_clearText_4 : decode cX6_clearText 4 = .ok (.getfield 178, 3) := by decide +kernel
theorem dX6_clearText_7 : decode cX6_clearText 7 = .ok (.istore_n 1, 1) := by decide +kernel
theorem dX6_clearText_8 : decode cX6_clearText 8 = .ok (.aload_n 0, 1) := by decide +kernel
theorem dX6_clearText_9 : decode cX6_clearText 9 = .ok (.getfield 27, 3) := by decide +kernel
theorem dX6_clearText_12 : decode cX6_clearText 12 = .ok (.iconst 0, 1) := by decide +kernel
theorem dX6_clearText_13 : decode cX6_clearText 13 = .ok (.putfield 178, 3) := by decide +kernel
theorem dX6_clearText_16 : decode cX6_clearText 16 = .ok (.iload_n 1, 1) := by decide +kernel
theorem dX6_clearText_17 : decode cX6_clearText 17 = .ok (.ireturn, 1) := by decide +kernel
theorem dX6_parse_0 : decode cX6_parse 0 = .ok (.aload_n 0, 1) := by decide +kernel
theorem dX6_parse_1 : decode cX6_parse 1 = .ok (.getfield 27, 3) := by decide +kernel
theorem dX6_parse_4 : decode cX6_parse 4 = .ok (.invokevirtual 184, 3) := by decide +kernel
theorem dX6_parse_7 : decode cX6_parse 7 = .ok (.istore_n 1, 1) := by decide +kernel
theorem dX6_parse_8 : decode cX6_parse 8 = .ok (.iload_n 1, 1) := by decide +kernel
theorem dX6_parse_9 : decode cX6_parse 9 = .ok (.iconst (-1), 1) := by decide +kernel
theorem dX6_parse_10 : decode cX6_parse 10 = .ok (.if_icmp .eq 8, 3) := by decide +kernel
theorem dX6_parse_13 : decode cX6_parse 13 = .ok (.bipush (-10), 2) := by decide +kernel
theorem dX6_parse_15 : decode cX6_parse 15 = .ok (.iload_n 1, 1) := by decide +kernel
theorem dX6_parse_16 : decode cX6_parse 16 = .ok (.isub, 1) := by decide +kernel
theorem dX6_parse_17 : decode cX6_parse 17 = .ok (.ireturn, 1) := by decide +kernel
theorem dX6_parse_18 : decode cX6_parse 18 = .ok (.aload_n 0, 1) := by decide +kernel
theorem dX6_parse_19 : decode cX6_parse 19 = .ok (.invokevirtual 75, 3) := by decide +kernel
theorem dX6_parse_22 : decode cX6_parse 22 = .ok (.aload_n 0, 1) := by decide +kernel
theorem dX6_parse_23 : decode cX6_parse 23 = .ok (.getfield 10, 3) := by decide +kernel
theorem dX6_parse_26 : decode cX6_parse 26 = .ok (.aload_n 0, 1) := by decide +kernel
theorem dX6_parse_27 : decode cX6_parse 27 = .ok (.getfield 27, 3) := by decide +kernel
theorem dX6_parse_30 : decode cX6_parse 30 = .ok (.invokevirtual 187, 3) := by decide +kernel
theorem dX6_parse_33 : decode cX6_parse 33 = .ok (.aload_n 0, 1) := by decide +kernel
theorem dX6_parse_34 : decode cX6_parse 34 = .ok (.getfield 10, 3) := by decide +kernel
theorem dX6_parse_37 : decode cX6_parse 37 = .ok (.getfield 65, 3) := by decide +kernel
theorem dX6_parse_40 : decode cX6_parse 40 = .ok (.ireturn, 1) := by decide +kernel
theorem dX6_undo_0 : decode cX6_undo 0 = .ok (.aload_n 0, 1) := by decide +kernel
theorem dX6_undo_1 : decode cX6_undo 1 = .ok (.getfield 20, 3) := by decide +kernel
theorem dX6_undo_4 : decode cX6_undo 4 = .ok (.ifCond .le 19, 3) := by decide +kernel
theorem dX6_undo_7 : decode cX6_undo 7 = .ok (.aload_n 0, 1) := by decide +kernel
theorem dX6_undo_8 : decode cX6_undo 8 = .ok (.getfield 20, 3) := by decide +kernel
theorem dX6_undo_11 : decode cX6_undo 11 = .ok (.aload_n 0, 1) := by decide +kernel
theorem dX6_undo_12 : decode cX6_undo 12 = .ok (.getfield 16, 3) := by decide +kernel
theorem dX6_undo_15 : decode cX6_undo 15 = .ok (.arraylength, 1) := by decide +kernel
theorem dX6_undo_16 : decode cX6_undo 16 = .ok (.if_icmp .gt 7, 3) := by decide +kernel
theorem dX6_undo_19 : decode cX6_undo 19 = .ok (.iconst 1, 1) := by decide +kernel
theorem dX6_undo_20 : decode cX6_undo 20 = .ok (.goto 4, 3) := by decide +kernel
theorem dX6_undo_23 : decode cX6_undo 23 = .ok (.iconst 0, 1) := by decide +kernel
theorem dX6_undo_24 : decode cX6_undo 24 = .ok (.invokestatic 72, 3) := by decide +kernel
theorem dX6_undo_27 : decode cX6_undo 27 = .ok (.aload_n 0, 1) := by decide +kernel
theorem dX6_undo_28 : decode cX6_undo 28 = .ok (.dup, 1) := by decide +kernel
theorem dX6_undo_29 : decode cX6_undo 29 = .ok (.getfield 20, 3) := by decide +kernel
theorem dX6_undo_32 : decode cX6_undo 32 = .ok (.iconst 1, 1) := by decide +kernel
theorem dX6_undo_33 : decode cX6_undo 33 = .ok (.isub, 1) := by decide +kernel
theorem dX6_undo_34 : decode cX6_undo 34 = .ok (.putfield 20, 3) := by decide +kernel
theorem dX6_undo_37 : decode cX6_undo 37 = .ok (.aload_n 0, 1) := by decide +kernel
theorem dX6_undo_38 : decode cX6_undo 38 = .ok (.getfield 10, 3) := by decide +kernel
theorem dX6_undo_41 : decode cX6_undo 41 = .ok (.aload_n 0, 1) := by decide +kernel
theorem dX6_undo_42 : decode cX6_undo 42 = .ok (.getfield 16, 3) := by decide +kernel
theorem dX6_undo_45 : decode cX6_undo 45 = .ok (.aload_n 0, 1) := by decide +kernel
theorem dX6_undo_46 : decode cX6_undo 46 = .ok (.getfield 20, 3) := by decide +kernel
theorem dX6_undo_49 : decode cX6_undo 49 = .ok (.aaload, 1) := by decide +kernel
theorem dX6_undo_50 : decode cX6_undo 50 = .ok (.invokevirtual 191, 3) := by decide +kernel
theorem dX6_undo_53 : decode cX6_undo 53 = .ok (.aload_n 0, 1) := by decide +kernel
theorem dX6_undo_54 : decode cX6_undo 54 = .ok (.getfield 20, 3) := by decide +kernel
theorem dX6_undo_57 : decode cX6_undo 57 = .ok (.ireturn, 1) := by decide +kernel
theorem dX6_digest_0 : decode cX6_digest 0 = .ok (.ldc2_w 195, 3) := by decide +kernel
theorem dX6_digest_3 : decode cX6_digest 3 = .ok (.aload_n 0, 1) := by decide +kernel
theorem dX6_digest_4 : decode cX6_digest 4 = .ok (.getfield 27, 3) := by decide +kernel
theorem dX6_digest_7 : decode cX6_digest 7 = .ok (.getfield 178, 3) := by decide +kernel
theorem dX6_digest_10 : decode cX6_digest 10 = .ok (.i2l, 1) := by decide +kernel
theorem dX6_digest_11 : decode cX6_digest 11 = .ok (.invokestatic 197, 3) := by decide +kernel
theorem dX6_digest_14 : decode cX6_digest 14 = .ok (.lstore_n 1, 1) := by decide +kernel
theorem dX6_digest_15 : decode cX6_digest 15 = .ok (.iconst 0, 1) := by decide +kernel
theorem dX6_digest_16 : decode cX6_digest 16 = .ok (.istore_n 3, 1) := by decide +kernel
theorem dX6_digest_17 : decode cX6_digest 17 = .ok (.iload_n 3, 1) := by decide +kernel
theorem dX6_digest_18 : decode cX6_digest 18 = .ok (.bipush 12, 2) := by decide +kernel
theorem dX6_digest_20 : decode cX6_digest 20 = .ok (.if_icmp .ge 23, 3) := by decide +kernel
theorem dX6_digest_23 : decode cX6_digest 23 = .ok (.lload_n 1, 1) := by decide +kernel
theorem dX6_digest_24 : decode cX6_digest 24 = .ok (.aload_n 0, 1) := by decide +kernel
theorem dX6_digest_25 : decode cX6_digest 25 = .ok (.getfield 10, 3) := by decide +kernel
theorem dX6_digest_28 : decode cX6_digest 28 = .ok (.iload_n 3, 1) := by decide +kernel
theorem dX6_digest_29 : decode cX6_digest 29 = .ok (.invokevirtual 163, 3) := by decide +kernel
theorem dX6_digest_32 : decode cX6_digest 32 = .ok (.i2l, 1) := by decide +kernel
theorem dX6_digest_33 : decode cX6_digest 33 = .ok (.invokestatic 197, 3) := by decide +kernel
theorem dX6_digest_36 : decode cX6_digest 36 = .ok (.lstore_n 1, 1) := by decide +kernel
theorem dX6_digest_37 : decode cX6_digest 37 = .ok (.iinc 3 1, 3) := by decide +kernel
theorem dX6_digest_40 : decode cX6_digest 40 = .ok (.goto (-23), 3) := by decide +kernel
theorem dX6_digest_43 : decode cX6_digest 43 = .ok (.lload_n 1, 1) := by decide +kernel
theorem dX6_digest_44 : decode cX6_digest 44 = .ok (.aload_n 0, 1) := by decide +kernel
theorem dX6_digest_45 : decode cX6_digest 45 = .ok (.getfield 10, 3) := by decide +kernel
theorem dX6_digest_48 : decode cX6_digest 48 = .ok (.getfield 85, 3) := by decide +kernel
theorem dX6_digest_51 : decode cX6_digest 51 = .ok (.invokestatic 39, 3) := by decide +kernel
theorem dX6_digest_54 : decode cX6_digest 54 = .ok (.i2l, 1) := by decide +kernel
theorem dX6_digest_55 : decode cX6_digest 55 = .ok (.invokestatic 197, 3) := by decide +kernel
theorem dX6_digest_58 : decode cX6_digest 58 = .ok (.lstore_n 1, 1) := by decide +kernel
theorem dX6_digest_59 : decode cX6_digest 59 = .ok (.iconst 0, 1) := by decide +kernel
theorem dX6_digest_60 : decode cX6_digest 60 = .ok (.istore_n 3, 1) := by decide +kernel
theorem dX6_digest_61 : decode cX6_digest 61 = .ok (.iload_n 3, 1) := by decide +kernel
theorem dX6_digest_62 : decode cX6_digest 62 = .ok (.aload_n 0, 1) := by decide +kernel
theorem dX6_digest_63 : decode cX6_digest 63 = .ok (.getfield 10, 3) := by decide +kernel
theorem dX6_digest_66 : decode cX6_digest 66 = .ok (.getfield 65, 3) := by decide +kernel
theorem dX6_digest_69 : decode cX6_digest 69 = .ok (.if_icmp .ge 36, 3) := by decide +kernel
theorem dX6_digest_72 : decode cX6_digest 72 = .ok (.iload_n 3, 1) := by decide +kernel
theorem dX6_digest_73 : decode cX6_digest 73 = .ok (.aload_n 0, 1) := by decide +kernel
theorem dX6_digest_74 : decode cX6_digest 74 = .ok (.getfield 10, 3) := by decide +kernel
theorem dX6_digest_77 : decode cX6_digest 77 = .ok (.getfield 201, 3) := by decide +kernel
theorem dX6_digest_80 : decode cX6_digest 80 = .ok (.arraylength, 1) := by decide +kernel
theorem dX6_digest_81 : decode cX6_digest 81 = .ok (.if_icmp .ge 24, 3) := by decide +kernel
theorem dX6_digest_84 : decode cX6_digest 84 = .ok (.aload_n 0, 1) := by decide +kernel
theorem dX6_digest_85 : decode cX6_digest 85 = .ok (.lload_n 1, 1) := by decide +kernel
theorem dX6_digest_86 : decode cX6_digest 86 = .ok (.aload_n 0, 1) := by decide +kernel
theorem dX6_digest_87 : decode cX6_digest 87 = .ok (.getfield 10, 3) := by decide +kernel
theorem dX6_digest_90 : decode cX6_digest 90 = .ok (.getfield 201, 3) := by decide +kernel
theorem dX6_digest_93 : decode cX6_digest 93 = .ok (.iload_n 3, 1) := by decide +kernel
theorem dX6_digest_94 : decode cX6_digest 94 = .ok (.aaload, 1) := by decide +kernel
theorem dX6_digest_95 : decode cX6_digest 95 = .ok (.invokevirtual 205, 3) := by decide +kernel
theorem dX6_digest_98 : decode cX6_digest 98 = .ok (.lstore_n 1, 1) := by decide +kernel
theorem dX6_digest_99 : decode cX6_digest 99 = .ok (.iinc 3 1, 3) := by decide +kernel
theorem dX6_digest_102 : decode cX6_digest 102 = .ok (.goto (-41), 3) := by decide +kernel
theorem dX6_digest_105 : decode cX6_digest 105 = .ok (.lload_n 1, 1) := by decide +kernel
theorem dX6_digest_106 : decode cX6_digest 106 = .ok (.aload_n 0, 1) := by decide +kernel
theorem dX6_digest_107 : decode cX6_digest 107 = .ok (.getfield 10, 3) := by decide +kernel
theorem dX6_digest_110 : decode cX6_digest 110 = .ok (.invokevirtual 166, 3) := by decide +kernel
theorem dX6_digest_113 : decode cX6_digest 113 = .ok (.i2l, 1) := by decide +kernel
theorem dX6_digest_114 : decode cX6_digest 114 = .ok (.invokestatic 197, 3) := by decide +kernel
theorem dX6_digest_117 : decode cX6_digest 117 = .ok (.lstore_n 1, 1) := by decide +kernel
theorem dX6_digest_118 : decode cX6_digest 118 = .ok (.lload_n 1, 1) := by decide +kernel
theorem dX6_digest_119 : decode cX6_digest 119 = .ok (.aload_n 0, 1) := by decide +kernel
theorem dX6_digest_120 : decode cX6_digest 120 = .ok (.getfield 20, 3) := by decide +kernel
theorem dX6_digest_123 : decode cX6_digest 123 = .ok (.i2l, 1) := by decide +kernel
theorem dX6_digest_124 : decode cX6_digest 124 = .ok (.invokestatic 197, 3) := by decide +kernel
theorem dX6_digest_127 : decode cX6_digest 127 = .ok (.lreturn, 1) := by decide +kernel
theorem dX6_mixedWithRight_0 : decode cX6_mixedWithRight 0 = .ok (.lload_n 1, 1) := by decide +kernel
theorem dX6_mixedWithRight_1 : decode cX6_mixedWithRight 1 = .ok (.lstore 4, 2) := by decide +kernel
theorem dX6_mixedWithRight_3 : decode cX6_mixedWithRight 3 = .ok (.iconst 0, 1) := by decide +kernel
theorem dX6_mixedWithRight_4 : decode cX6_mixedWithRight 4 = .ok (.istore 6, 2) := by decide +kernel
theorem dX6_mixedWithRight_6 : decode cX6_mixedWithRight 6 = .ok (.iload 6, 2) := by decide +kernel
theorem dX6_mixedWithRight_8 : decode cX6_mixedWithRight 8 = .ok (.bipush 13, 2) := by decide +kernel
theorem dX6_mixedWithRight_10 : decode cX6_mixedWithRight 10 = .ok (.if_icmp .ge 27, 3) := by decide +kernel
theorem dX6_mixedWithRight_13 : decode cX6_mixedWithRight 13 = .ok (.lload 4, 2) := by decide +kernel
theorem dX6_mixedWithRight_15 : decode cX6_mixedWithRight 15 = .ok (.aload_n 0, 1) := by decide +kernel
theorem dX6_mixedWithRight_16 : decode cX6_mixedWithRight 16 = .ok (.getfield 10, 3) := by decide +kernel
theorem dX6_mixedWithRight_19 : decode cX6_mixedWithRight 19 = .ok (.aload_n 3, 1) := by decide +kernel
theorem dX6_mixedWithRight_20 : decode cX6_mixedWithRight 20 = .ok (.iload 6, 2) := by decide +kernel
theorem dX6_mixedWithRight_22 : decode cX6_mixedWithRight 22 = .ok (.invokevirtual 143, 3) := by decide +kernel
theorem dX6_mixedWithRight_25 : decode cX6_mixedWithRight 25 = .ok (.i2l, 1) := by decide +kernel
theorem dX6_mixedWithRight_26 : decode cX6_mixedWithRight 26 = .ok (.invokestatic 197, 3) := by decide +kernel
theorem dX6_mixedWithRight_29 : decode cX6_mixedWithRight 29 = .ok (.lstore 4, 2) := by decide +kernel
theorem dX6_mixedWithRight_31 : decode cX6_mixedWithRight 31 = .ok (.iinc 6 1, 3) := by decide +kernel
theorem dX6_mixedWithRight_34 : decode cX6_mixedWithRight 34 = .ok (.goto (-28), 3) := by decide +kernel
theorem dX6_mixedWithRight_37 : decode cX6_mixedWithRight 37 = .ok (.iconst 0, 1) := by decide +kernel
theorem dX6_mixedWithRight_38 : decode cX6_mixedWithRight 38 = .ok (.istore 6, 2) := by decide +kernel
theorem dX6_mixedWithRight_40 : decode cX6_mixedWithRight 40 = .ok (.iload 6, 2) := by decide +kernel
theorem dX6_mixedWithRight_42 : decode cX6_mixedWithRight 42 = .ok (.bipush 10, 2) := by decide +kernel
theorem dX6_mixedWithRight_44 : decode cX6_mixedWithRight 44 = .ok (.if_icmp .ge 23, 3) := by decide +kernel
theorem dX6_mixedWithRight_47 : decode cX6_mixedWithRight 47 = .ok (.lload 4, 2) := by decide +kernel
theorem dX6_mixedWithRight_49 : decode cX6_mixedWithRight 49 = .ok (.aload_n 3, 1) := by decide +kernel
theorem dX6_mixedWithRight_50 : decode cX6_mixedWithRight 50 = .ok (.iload 6, 2) := by decide +kernel
theorem dX6_mixedWithRight_52 : decode cX6_mixedWithRight 52 = .ok (.invokevirtual 160, 3) := by decide +kernel
theorem dX6_mixedWithRight_55 : decode cX6_mixedWithRight 55 = .ok (.i2l, 1) := by decide +kernel
theorem dX6_mixedWithRight_56 : decode cX6_mixedWithRight 56 = .ok (.invokestatic 197, 3) := by decide +kernel
theorem dX6_mixedWithRight_59 : decode cX6_mixedWithRight 59 = .ok (.lstore 4, 2) := by decide +kernel
theorem dX6_mixedWithRight_61 : decode cX6_mixedWithRight 61 = .ok (.iinc 6 1, 3) := by decide +kernel
theorem dX6_mixedWithRight_64 : decode cX6_mixedWithRight 64 = .ok (.goto (-24), 3) := by decide +kernel
theorem dX6_mixedWithRight_67 : decode cX6_mixedWithRight 67 = .ok (.lload 4, 2) := by decide +kernel
theorem dX6_mixedWithRight_69 : decode cX6_mixedWithRight 69 = .ok (.aload_n 3, 1) := by decide +kernel
theorem dX6_mixedWithRight_70 : decode cX6_mixedWithRight 70 = .ok (.aload_n 0, 1) := by decide +kernel
theorem dX6_mixedWithRight_71 : decode cX6_mixedWithRight 71 = .ok (.getfield 10, 3) := by decide +kernel
theorem dX6_mixedWithRight_74 : decode cX6_mixedWithRight 74 = .ok (.getfield 85, 3) := by decide +kernel
theorem dX6_mixedWithRight_77 : decode cX6_mixedWithRight 77 = .ok (.aload_n 0, 1) := by decide +kernel
theorem dX6_mixedWithRight_78 : decode cX6_mixedWithRight 78 = .ok (.getfield 10, 3) := by decide +kernel
theorem dX6_mixedWithRight_81 : decode cX6_mixedWithRight 81 = .ok (.getfield 85, 3) := by decide +kernel
theorem dX6_mixedWithRight_84 : decode cX6_mixedWithRight 84 = .ok (.invokevirtual 153, 3) := by decide +kernel
theorem dX6_mixedWithRight_87 : decode cX6_mixedWithRight 87 = .ok (.ifCond .eq 7, 3) := by decide +kernel
theorem dX6_mixedWithRight_90 : decode cX6_mixedWithRight 90 = .ok (.lconst 1, 1) := by decide +kernel
theorem dX6_mixedWithRight_91 : decode cX6_mixedWithRight 91 = .ok (.goto 4, 3) := by decide +kernel
theorem dX6_mixedWithRight_94 : decode cX6_mixedWithRight 94 = .ok (.lconst 0, 1) := by decide +kernel
theorem dX6_mixedWithRight_95 : decode cX6_mixedWithRight 95 = .ok (.invokestatic 197, 3) := by decide +kernel
theorem dX6_mixedWithRight_98 : decode cX6_mixedWithRight 98 = .ok (.lreturn, 1) := by decide +kernel
theorem dX6_mixed_0 : decode cX6_mixed 0 = .ok (.ldc2_w 209, 3) := by decide +kernel
theorem dX6_mixed_3 : decode cX6_mixed 3 = .ok (.lload_n 0, 1) := by decide +kernel
theorem dX6_mixed_4 : decode cX6_mixed 4 = .ok (.lmul, 1) := by decide +kernel
theorem dX6_mixed_5 : decode cX6_mixed 5 = .ok (.lload_n 2, 1) := by decide +kernel
theorem dX6_mixed_6 : decode cX6_mixed 6 = .ok (.ladd, 1) := by decide +kernel
theorem dX6_mixed_7 : decode cX6_mixed 7 = .ok (.lreturn, 1) := by decide +kernel
theorem dX6_isWithin_0 : decode cX6_isWithin 0 = .ok (.iload_n 0, 1) := by decide +kernel
theorem dX6_isWithin_1 : decode cX6_isWithin 1 = .ok (.iload_n 1, 1) := by decide +kernel
theorem dX6_isWithin_2 : decode cX6_isWithin 2 = .ok (.if_icmp .lt 12, 3) := by decide +kernel
theorem dX6_isWithin_5 : decode cX6_isWithin 5 = .ok (.iload_n 0, 1) := by decide +kernel
theorem dX6_isWithin_6 : decode cX6_isWithin 6 = .ok (.iload_n 2, 1) := by decide +kernel
theorem dX6_isWithin_7 : decode cX6_isWithin 7 = .ok (.if_icmp .gt 7, 3) := by decide +kernel
theorem dX6_isWithin_10 : decode cX6_isWithin 10 = .ok (.iconst 1, 1) := by decide +kernel
theorem dX6_isWithin_11 : decode cX6_isWithin 11 = .ok (.goto 4, 3) := by decide +kernel
theorem dX6_isWithin_14 : decode cX6_isWithin 14 = .ok (.iconst 0, 1) := by decide +kernel
theorem dX6_isWithin_15 : decode cX6_isWithin 15 = .ok (.ireturn, 1) := by decide +kernel
theorem dX6_checkArgument_0 : decode cX6_checkArgument 0 = .ok (.iload_n 0, 1) := by decide +kernel
theorem dX6_checkArgument_1 : decode cX6_checkArgument 1 = .ok (.ifCond .ne 13, 3) := by decide +kernel
theorem dX6_checkArgument_4 : decode cX6_checkArgument 4 = .ok (.new 211, 3) := by decide +kernel
theorem dX6_checkArgument_7 : decode cX6_checkArgument 7 = .ok (.dup, 1) := by decide +kernel
theorem dX6_checkArgument_8 : decode cX6_checkArgument 8 = .ok (.ldc 213, 2) := by decide +kernel
theorem dX6_checkArgument_10 : decode cX6_checkArgument 10 = .ok (.invokespecial 215, 3) := by decide +kernel
theorem dX6_checkArgument_13 : decode cX6_checkArgument 13 = .ok (.athrow, 1) := by decide +kernel
theorem dX6_checkArgument_14 : decode cX6_checkArgument 14 = .ok (.return_, 1) := by decide +kernel
theorem dX6_checkState_0 : decode cX6_checkState 0 = .ok (.iload_n 0, 1) := by decide +kernel
theorem dX6_checkState_1 : decode cX6_checkState 1 = .ok (.ifCond .ne 13, 3) := by decide +kernel
theorem dX6_checkState_4 : decode cX6_checkState 4 = .ok (.new 218, 3) := by decide +kernel
theorem dX6_checkState_7 : decode cX6_checkState 7 = .ok (.dup, 1) := by decide +kernel
theorem dX6_checkState_8 : decode cX6_checkState 8 = .ok (.ldc 220, 2) := by decide +kernel
theorem dX6_checkState_10 : decode cX6_checkState 10 = .ok (.invokespecial 222, 3) := by decide +kernel
theorem dX6_checkState_13 : decode cX6_checkState 13 = .ok (.athrow, 1) := by decide +kernel
theorem dX6_checkState_14 : decode cX6_checkState 14 = .ok (.return_, 1) := by decide +kernel
theorem dX6_existingRight_0 : decode cX6_existingRight 0 = .ok (.iload_n 1, 1) := by decide +kernel
theorem dX6_existingRight_1 : decode cX6_existingRight 1 = .ok (.ifCond .lt 26, 3) := by decide +kernel
theorem dX6_existingRight_4 : decode cX6_existingRight 4 = .ok (.iload_n 1, 1) := by decide +kernel
theorem dX6_existingRight_5 : decode cX6_existingRight 5 = .ok (.aload_n 0, 1) := by decide +kernel
theorem dX6_existingRight_6 : decode cX6_existingRight 6 = .ok (.getfield 10, 3) := by decide +kernel
theorem dX6_existingRight_9 : decode cX6_existingRight 9 = .ok (.getfield 65, 3) := by decide +kernel
theorem dX6_existingRight_12 : decode cX6_existingRight 12 = .ok (.if_icmp .ge 15, 3) := by decide +kernel
theorem dX6_existingRight_15 : decode cX6_existingRight 15 = .ok (.iload_n 1, 1) := by decide +kernel
theorem dX6_existingRight_16 : decode cX6_existingRight 16 = .ok (.aload_n 0, 1) := by decide +kernel
theorem dX6_existingRight_17 : decode cX6_existingRight 17 = .ok (.getfield 10, 3) := by decide +kernel
theorem dX6_existingRight_20 : decode cX6_existingRight 20 = .ok (.getfield 201, 3) := by decide +kernel
theorem dX6_existingRight_23 : decode cX6_existingRight 23 = .ok (.arraylength, 1) := by decide +kernel
theorem dX6_existingRight_24 : decode cX6_existingRight 24 = .ok (.if_icmp .lt 13, 3) := by decide +kernel
theorem dX6_existingRight_27 : decode cX6_existingRight 27 = .ok (.new 223, 3) := by decide +kernel
theorem dX6_existingRight_30 : decode cX6_existingRight 30 = .ok (.dup, 1) := by decide +kernel
theorem dX6_existingRight_31 : decode cX6_existingRight 31 = .ok (.ldc 225, 2) := by decide +kernel
theorem dX6_existingRight_33 : decode cX6_existingRight 33 = .ok (.invokespecial 227, 3) := by decide +kernel
theorem dX6_existingRight_36 : decode cX6_existingRight 36 = .ok (.athrow, 1) := by decide +kernel
theorem dX6_existingRight_37 : decode cX6_existingRight 37 = .ok (.aload_n 0, 1) := by decide +kernel
theorem dX6_existingRight_38 : decode cX6_existingRight 38 = .ok (.getfield 10, 3) := by decide +kernel
theorem dX6_existingRight_41 : decode cX6_existingRight 41 = .ok (.getfield 201, 3) := by decide +kernel
theorem dX6_existingRight_44 : decode cX6_existingRight 44 = .ok (.iload_n 1, 1) := by decide +kernel
theorem dX6_existingRight_45 : decode cX6_existingRight 45 = .ok (.aaload, 1) := by decide +kernel
theorem dX6_existingRight_46 : decode cX6_existingRight 46 = .ok (.areturn, 1) := by decide +kernel
theorem dX6_save_0 : decode cX6_save 0 = .ok (.aload_n 0, 1) := by decide +kernel
theorem dX6_save_1 : decode cX6_save 1 = .ok (.getfield 20, 3) := by decide +kernel
theorem dX6_save_4 : decode cX6_save 4 = .ok (.aload_n 0, 1) := by decide +kernel
theorem dX6_save_5 : decode cX6_save 5 = .ok (.getfield 16, 3) := by decide +kernel
theorem dX6_save_8 : decode cX6_save 8 = .ok (.arraylength, 1) := by decide +kernel
theorem dX6_save_9 : decode cX6_save 9 = .ok (.if_icmp .lt 7, 3) := by decide +kernel
theorem dX6_save_12 : decode cX6_save 12 = .ok (.aload_n 0, 1) := by decide +kernel
theorem dX6_save_13 : decode cX6_save 13 = .ok (.invokevirtual 228, 3) := by decide +kernel
theorem dX6_save_16 : decode cX6_save 16 = .ok (.aload_n 0, 1) := by decide +kernel
theorem dX6_save_17 : decode cX6_save 17 = .ok (.getfield 20, 3) := by decide +kernel
theorem dX6_save_20 : decode cX6_save 20 = .ok (.ifCond .lt 41, 3) := by decide +kernel
theorem dX6_save_23 : decode cX6_save 23 = .ok (.aload_n 0, 1) := by decide +kernel
theorem dX6_save_24 : decode cX6_save 24 = .ok (.getfield 20, 3) := by decide +kernel
theorem dX6_save_27 : decode cX6_save 27 = .ok (.aload_n 0, 1) := by decide +kernel
theorem dX6_save_28 : decode cX6_save 28 = .ok (.getfield 16, 3) := by decide +kernel
theorem dX6_save_31 : decode cX6_save 31 = .ok (.arraylength, 1) := by decide +kernel
theorem dX6_save_32 : decode cX6_save 32 = .ok (.if_icmp .ge 29, 3) := by decide +kernel
theorem dX6_save_35 : decode cX6_save 35 = .ok (.aload_n 0, 1) := by decide +kernel
theorem dX6_save_36 : decode cX6_save 36 = .ok (.getfield 16, 3) := by decide +kernel
theorem dX6_save_39 : decode cX6_save 39 = .ok (.aload_n 0, 1) := by decide +kernel
theorem dX6_save_40 : decode cX6_save 40 = .ok (.getfield 20, 3) := by decide +kernel
theorem dX6_save_43 : decode cX6_save 43 = .ok (.aaload, 1) := by decide +kernel
theorem dX6_save_44 : decode cX6_save 44 = .ok (.aload_n 0, 1) := by decide +kernel
theorem dX6_save_45 : decode cX6_save 45 = .ok (.getfield 10, 3) := by decide +kernel
theorem dX6_save_48 : decode cX6_save 48 = .ok (.invokevirtual 191, 3) := by decide +kernel
theorem dX6_save_51 : decode cX6_save 51 = .ok (.aload_n 0, 1) := by decide +kernel
theorem dX6_save_52 : decode cX6_save 52 = .ok (.dup, 1) := by decide +kernel
theorem dX6_save_53 : decode cX6_save 53 = .ok (.getfield 20, 3) := by decide +kernel
theorem dX6_save_56 : decode cX6_save 56 = .ok (.iconst 1, 1) := by decide +kernel
theorem dX6_save_57 : decode cX6_save 57 = .ok (.iadd, 1) := by decide +kernel
theorem dX6_save_58 : decode cX6_save 58 = .ok (.putfield 20, 3) := by decide +kernel
theorem dX6_save_61 : decode cX6_save 61 = .ok (.return_, 1) := by decide +kernel
theorem dX6_dropOldest_0 : decode cX6_dropOldest 0 = .ok (.iconst 1, 1) := by decide +kernel
theorem dX6_dropOldest_1 : decode cX6_dropOldest 1 = .ok (.istore_n 1, 1) := by decide +kernel
theorem dX6_dropOldest_2 : decode cX6_dropOldest 2 = .ok (.iload_n 1, 1) := by decide +kernel
theorem dX6_dropOldest_3 : decode cX6_dropOldest 3 = .ok (.aload_n 0, 1) := by decide +kernel
theorem dX6_dropOldest_4 : decode cX6_dropOldest 4 = .ok (.getfield 16, 3) := by decide +kernel
theorem dX6_dropOldest_7 : decode cX6_dropOldest 7 = .ok (.arraylength, 1) := by decide +kernel
theorem dX6_dropOldest_8 : decode cX6_dropOldest 8 = .ok (.if_icmp .ge 39, 3) := by decide +kernel
theorem dX6_dropOldest_11 : decode cX6_dropOldest 11 = .ok (.aload_n 0, 1) := by decide +kernel
theorem dX6_dropOldest_12 : decode cX6_dropOldest 12 = .ok (.getfield 16, 3) := by decide +kernel
theorem dX6_dropOldest_15 : decode cX6_dropOldest 15 = .ok (.iload_n 1, 1) := by decide +kernel
theorem dX6_dropOldest_16 : decode cX6_dropOldest 16 = .ok (.iconst 1, 1) := by decide +kernel
theorem dX6_dropOldest_17 : decode cX6_dropOldest 17 = .ok (.isub, 1) := by decide +kernel
theorem dX6_dropOldest_18 : decode cX6_dropOldest 18 = .ok (.aaload, 1) := by decide +kernel
theorem dX6_dropOldest_19 : decode cX6_dropOldest 19 = .ok (.astore_n 2, 1) := by decide +kernel
theorem dX6_dropOldest_20 : decode cX6_dropOldest 20 = .ok (.aload_n 0, 1) := by decide +kernel
theorem dX6_dropOldest_21 : decode cX6_dropOldest 21 = .ok (.getfield 16, 3) := by decide +kernel
theorem dX6_dropOldest_24 : decode cX6_dropOldest 24 = .ok (.iload_n 1, 1) := by decide +kernel
theorem dX6_dropOldest_25 : decode cX6_dropOldest 25 = .ok (.iconst 1, 1) := by decide +kernel
theorem dX6_dropOldest_26 : decode cX6_dropOldest 26 = .ok (.isub, 1) := by decide +kernel
theorem dX6_dropOldest_27 : decode cX6_dropOldest 27 = .ok (.aload_n 0, 1) := by decide +kernel
theorem dX6_dropOldest_28 : decode cX6_dropOldest 28 = .ok (.getfield 16, 3) := by decide +kernel
theorem dX6_dropOldest_31 : decode cX6_dropOldest 31 = .ok (.iload_n 1, 1) := by decide +kernel
theorem dX6_dropOldest_32 : decode cX6_dropOldest 32 = .ok (.aaload, 1) := by decide +kernel
theorem dX6_dropOldest_33 : decode cX6_dropOldest 33 = .ok (.aastore, 1) := by decide +kernel
theorem dX6_dropOldest_34 : decode cX6_dropOldest 34 = .ok (.aload_n 0, 1) := by decide +kernel
theorem dX6_dropOldest_35 : decode cX6_dropOldest 35 = .ok (.getfield 16, 3) := by decide +kernel
theorem dX6_dropOldest_38 : decode cX6_dropOldest 38 = .ok (.iload_n 1, 1) := by decide +kernel
theorem dX6_dropOldest_39 : decode cX6_dropOldest 39 = .ok (.aload_n 2, 1) := by decide +kernel
theorem dX6_dropOldest_40 : decode cX6_dropOldest 40 = .ok (.aastore, 1) := by decide +kernel
theorem dX6_dropOldest_41 : decode cX6_dropOldest 41 = .ok (.iinc 1 1, 3) := by decide +kernel
theorem dX6_dropOldest_44 : decode cX6_dropOldest 44 = .ok (.goto (-42), 3) := by decide +kernel
theorem dX6_dropOldest_47 : decode cX6_dropOldest 47 = .ok (.aload_n 0, 1) := by decide +kernel
theorem dX6_dropOldest_48 : decode cX6_dropOldest 48 = .ok (.aload_n 0, 1) := by decide +kernel
theorem dX6_dropOldest_49 : decode cX6_dropOldest 49 = .ok (.getfield 16, 3) := by decide +kernel
theorem dX6_dropOldest_52 : decode cX6_dropOldest 52 = .ok (.arraylength, 1) := by decide +kernel
theorem dX6_dropOldest_53 : decode cX6_dropOldest 53 = .ok (.iconst 1, 1) := by decide +kernel
theorem dX6_dropOldest_54 : decode cX6_dropOldest 54 = .ok (.isub, 1) := by decide +kernel
theorem dX6_dropOldest_55 : decode cX6_dropOldest 55 = .ok (.putfield 20, 3) := by decide +kernel
theorem dX6_dropOldest_58 : decode cX6_dropOldest 58 = .ok (.return_, 1) := by decide +kernel
