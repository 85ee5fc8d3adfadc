/-! decode rows -/
theorem dX0_init_0 : decode cX0_init 0 = .ok (.aload_n 0, 1) := by decide +kernel
theorem dX0_init_1 : decode cX0_init 1 = .ok (.invokespecial 3, 3) := by decide +kernel
theorem dX0_init_4 : decode cX0_init 4 = .ok (.aload_n 0, 1) := by decide +kernel
theorem dX0_init_5 : decode cX0_init 5 = .ok (.iconst (-1), 1) := by decide +kernel
theorem dX0_init_6 : decode cX0_init 6 = .ok (.putfield 9, 3) := by decide +kernel
theorem dX0_init_9 : decode cX0_init 9 = .ok (.return_, 1) := by decide +kernel
theorem dX0_come_0 : decode cX0_come 0 = .ok (.aload_n 0, 1) := by decide +kernel
theorem dX0_come_1 : decode cX0_come 1 = .ok (.iload_n 1, 1) := by decide +kernel
theorem dX0_come_2 : decode cX0_come 2 = .ok (.putfield 15, 3) := by decide +kernel
theorem dX0_come_5 : decode cX0_come 5 = .ok (.aload_n 0, 1) := by decide +kernel
theorem dX0_come_6 : decode cX0_come 6 = .ok (.iload_n 2, 1) := by decide +kernel
theorem dX0_come_7 : decode cX0_come 7 = .ok (.putfield 18, 3) := by decide +kernel
theorem dX0_come_10 : decode cX0_come 10 = .ok (.aload_n 0, 1) := by decide +kernel
theorem dX0_come_11 : decode cX0_come 11 = .ok (.iconst 0, 1) := by decide +kernel
theorem dX0_come_12 : decode cX0_come 12 = .ok (.putfield 21, 3) := by decide +kernel
theorem dX0_come_15 : decode cX0_come 15 = .ok (.aload_n 0, 1) := by decide +kernel
theorem dX0_come_16 : decode cX0_come 16 = .ok (.iconst 0, 1) := by decide +kernel
theorem dX0_come_17 : decode cX0_come 17 = .ok (.putfield 24, 3) := by decide +kernel
theorem dX0_come_20 : decode cX0_come 20 = .ok (.aload_n 0, 1) := by decide +kernel
theorem dX0_come_21 : decode cX0_come 21 = .ok (.iconst 0, 1) := by decide +kernel
theorem dX0_come_22 : decode cX0_come 22 = .ok (.putfield 27, 3) := by decide +kernel
theorem dX0_come_25 : decode cX0_come 25 = .ok (.aload_n 0, 1) := by decide +kernel
theorem dX0_come_26 : decode cX0_come 26 = .ok (.iconst (-1), 1) := by decide +kernel
theorem dX0_come_27 : decode cX0_come 27 = .ok (.putfield 9, 3) := by decide +kernel
theorem dX0_come_30 : decode cX0_come 30 = .ok (.return_, 1) := by decide +kernel
theorem dX0_takeChild_0 : decode cX0_takeChild 0 = .ok (.aload_n 0, 1) := by decide +kernel
theorem dX0_takeChild_1 : decode cX0_takeChild 1 = .ok (.aload_n 1, 1) := by decide +kernel
theorem dX0_takeChild_2 : decode cX0_takeChild 2 = .ok (.getfield 15, 3) := by decide +kernel
theorem dX0_takeChild_5 : decode cX0_takeChild 5 = .ok (.putfield 15, 3) := by decide +kernel
theorem dX0_takeChild_8 : decode cX0_takeChild 8 = .ok (.aload_n 0, 1) := by decide +kernel
theorem dX0_takeChild_9 : decode cX0_takeChild 9 = .ok (.aload_n 1, 1) := by decide +kernel
theorem dX0_takeChild_10 : decode cX0_takeChild 10 = .ok (.getfield 18, 3) := by decide +kernel
theorem dX0_takeChild_13 : decode cX0_takeChild 13 = .ok (.putfield 18, 3) := by decide +kernel
theorem dX0_takeChild_16 : decode cX0_takeChild 16 = .ok (.aload_n 0, 1) := by decide +kernel
theorem dX0_takeChild_17 : decode cX0_takeChild 17 = .ok (.aload_n 1, 1) := by decide +kernel
theorem dX0_takeChild_18 : decode cX0_takeChild 18 = .ok (.getfield 21, 3) := by decide +kernel
theorem dX0_takeChild_21 : decode cX0_takeChild 21 = .ok (.putfield 21, 3) := by decide +kernel
theorem dX0_takeChild_24 : decode cX0_takeChild 24 = .ok (.aload_n 0, 1) := by decide +kernel
theorem dX0_takeChild_25 : decode cX0_takeChild 25 = .ok (.aload_n 1, 1) := by decide +kernel
theorem dX0_takeChild_26 : decode cX0_takeChild 26 = .ok (.getfield 24, 3) := by decide +kernel
theorem dX0_takeChild_29 : decode cX0_takeChild 29 = .ok (.putfield 24, 3) := by decide +kernel
theorem dX0_takeChild_32 : decode cX0_takeChild 32 = .ok (.aload_n 0, 1) := by decide +kernel
theorem dX0_takeChild_33 : decode cX0_takeChild 33 = .ok (.aload_n 1, 1) := by decide +kernel
theorem dX0_takeChild_34 : decode cX0_takeChild 34 = .ok (.getfield 27, 3) := by decide +kernel
theorem dX0_takeChild_37 : decode cX0_takeChild 37 = .ok (.putfield 27, 3) := by decide +kernel
theorem dX0_takeChild_40 : decode cX0_takeChild 40 = .ok (.aload_n 0, 1) := by decide +kernel
theorem dX0_takeChild_41 : decode cX0_takeChild 41 = .ok (.aload_n 1, 1) := by decide +kernel
theorem dX0_takeChild_42 : decode cX0_takeChild 42 = .ok (.getfield 9, 3) := by decide +kernel
theorem dX0_takeChild_45 : decode cX0_takeChild 45 = .ok (.putfield 9, 3) := by decide +kernel
theorem dX0_takeChild_48 : decode cX0_takeChild 48 = .ok (.return_, 1) := by decide +kernel
theorem dX0_gain_0 : decode cX0_gain 0 = .ok (.aload_n 0, 1) := by decide +kernel
theorem dX0_gain_1 : decode cX0_gain 1 = .ok (.sipush 9999, 3) := by decide +kernel
theorem dX0_gain_4 : decode cX0_gain 4 = .ok (.aload_n 0, 1) := by decide +kernel
theorem dX0_gain_5 : decode cX0_gain 5 = .ok (.getfield 18, 3) := by decide +kernel
theorem dX0_gain_8 : decode cX0_gain 8 = .ok (.iload_n 1, 1) := by decide +kernel
theorem dX0_gain_9 : decode cX0_gain 9 = .ok (.iadd, 1) := by decide +kernel
theorem dX0_gain_10 : decode cX0_gain 10 = .ok (.invokestatic 30, 3) := by decide +kernel
theorem dX0_gain_13 : decode cX0_gain 13 = .ok (.putfield 18, 3) := by decide +kernel
theorem dX0_gain_16 : decode cX0_gain 16 = .ok (.aload_n 0, 1) := by decide +kernel
theorem dX0_gain_17 : decode cX0_gain 17 = .ok (.sipush 9999, 3) := by decide +kernel
theorem dX0_gain_20 : decode cX0_gain 20 = .ok (.aload_n 0, 1) := by decide +kernel
theorem dX0_gain_21 : decode cX0_gain 21 = .ok (.getfield 21, 3) := by decide +kernel
theorem dX0_gain_24 : decode cX0_gain 24 = .ok (.iload_n 2, 1) := by decide +kernel
theorem dX0_gain_25 : decode cX0_gain 25 = .ok (.iadd, 1) := by decide +kernel
theorem dX0_gain_26 : decode cX0_gain 26 = .ok (.invokestatic 30, 3) := by decide +kernel
theorem dX0_gain_29 : decode cX0_gain 29 = .ok (.putfield 21, 3) := by decide +kernel
theorem dX0_gain_32 : decode cX0_gain 32 = .ok (.return_, 1) := by decide +kernel
theorem dX1_init_0 : decode cX1_init 0 = .ok (.aload_n 0, 1) := by decide +kernel
theorem dX1_init_1 : decode cX1_init 1 = .ok (.invokespecial 3, 3) := by decide +kernel
theorem dX1_init_4 : decode cX1_init 4 = .ok (.aload_n 0, 1) := by decide +kernel
theorem dX1_init_5 : decode cX1_init 5 = .ok (.bipush 6, 2) := by decide +kernel
theorem dX1_init_7 : decode cX1_init 7 = .ok (.anewarray 9, 3) := by decide +kernel
theorem dX1_init_10 : decode cX1_init 10 = .ok (.putfield 11, 3) := by decide +kernel
theorem dX1_init_13 : decode cX1_init 13 = .ok (.aload_n 0, 1) := by decide +kernel
theorem dX1_init_14 : decode cX1_init 14 = .ok (.bipush 6, 2) := by decide +kernel
theorem dX1_init_16 : decode cX1_init 16 = .ok (.anewarray 17, 3) := by decide +kernel
theorem dX1_init_19 : decode cX1_init 19 = .ok (.putfield 19, 3) := by decide +kernel
theorem dX1_init_22 : decode cX1_init 22 = .ok (.aload_n 0, 1) := by decide +kernel
theorem dX1_init_23 : decode cX1_init 23 = .ok (.iconst 5, 1) := by decide +kernel
theorem dX1_init_24 : decode cX1_init 24 = .ok (.putfield 23, 3) := by decide +kernel
theorem dX1_init_27 : decode cX1_init 27 = .ok (.aload_n 0, 1) := by decide +kernel
theorem dX1_init_28 : decode cX1_init 28 = .ok (.sipush 999, 3) := by decide +kernel
theorem dX1_init_31 : decode cX1_init 31 = .ok (.putfield 27, 3) := by decide +kernel
theorem dX1_init_34 : decode cX1_init 34 = .ok (.aload_n 0, 1) := by decide +kernel
theorem dX1_init_35 : decode cX1_init 35 = .ok (.iconst 1, 1) := by decide +kernel
theorem dX1_init_36 : decode cX1_init 36 = .ok (.putfield 30, 3) := by decide +kernel
theorem dX1_init_39 : decode cX1_init 39 = .ok (.iconst 0, 1) := by decide +kernel
theorem dX1_init_40 : decode cX1_init 40 = .ok (.istore_n 1, 1) := by decide +kernel
theorem dX1_init_41 : decode cX1_init 41 = .ok (.iload_n 1, 1) := by decide +kernel
theorem dX1_init_42 : decode cX1_init 42 = .ok (.bipush 6, 2) := by decide +kernel
theorem dX1_init_44 : decode cX1_init 44 = .ok (.if_icmp .ge 22, 3) := by decide +kernel
theorem dX1_init_47 : decode cX1_init 47 = .ok (.aload_n 0, 1) := by decide +kernel
theorem dX1_init_48 : decode cX1_init 48 = .ok (.getfield 11, 3) := by decide +kernel
theorem dX1_init_51 : decode cX1_init 51 = .ok (.iload_n 1, 1) := by decide +kernel
theorem dX1_init_52 : decode cX1_init 52 = .ok (.new 9, 3) := by decide +kernel
theorem dX1_init_55 : decode cX1_init 55 = .ok (.dup, 1) := by decide +kernel
theorem dX1_init_56 : decode cX1_init 56 = .ok (.invokespecial 33, 3) := by decide +kernel
theorem dX1_init_59 : decode cX1_init 59 = .ok (.aastore, 1) := by decide +kernel
theorem dX1_init_60 : decode cX1_init 60 = .ok (.iinc 1 1, 3) := by decide +kernel
theorem dX1_init_63 : decode cX1_init 63 = .ok (.goto (-22), 3) := by decide +kernel
theorem dX1_init_66 : decode cX1_init 66 = .ok (.iconst 0, 1) := by decide +kernel
theorem dX1_init_67 : decode cX1_init 67 = .ok (.istore_n 1, 1) := by decide +kernel
theorem dX1_init_68 : decode cX1_init 68 = .ok (.iload_n 1, 1) := by decide +kernel
theorem dX1_init_69 : decode cX1_init 69 = .ok (.bipush 6, 2) := by decide +kernel
theorem dX1_init_71 : decode cX1_init 71 = .ok (.if_icmp .ge 22, 3) := by decide +kernel
theorem dX1_init_74 : decode cX1_init 74 = .ok (.aload_n 0, 1) := by decide +kernel
theorem dX1_init_75 : decode cX1_init 75 = .ok (.getfield 19, 3) := by decide +kernel
theorem dX1_init_78 : decode cX1_init 78 = .ok (.iload_n 1, 1) := by decide +kernel
theorem dX1_init_79 : decode cX1_init 79 = .ok (.new 17, 3) := by decide +kernel
theorem dX1_init_82 : decode cX1_init 82 = .ok (.dup, 1) := by decide +kernel
theorem dX1_init_83 : decode cX1_init 83 = .ok (.invokespecial 34, 3) := by decide +kernel
theorem dX1_init_86 : decode cX1_init 86 = .ok (.aastore, 1) := by decide +kernel
theorem dX1_init_87 : decode cX1_init 87 = .ok (.iinc 1 1, 3) := by decide +kernel
theorem dX1_init_90 : decode cX1_init 90 = .ok (.goto (-22), 3) := by decide +kernel
theorem dX1_init_93 : decode cX1_init 93 = .ok (.return_, 1) := by decide +kernel
theorem dX1_takeAll_0 : decode cX1_takeAll 0 = .ok (.aload_n 0, 1) := by decide +kernel
theorem dX1_takeAll_1 : decode cX1_takeAll 1 = .ok (.aload_n 1, 1) := by decide +kernel
theorem dX1_takeAll_2 : decode cX1_takeAll 2 = .ok (.getfield 35, 3) := by decide +kernel
theorem dX1_takeAll_5 : decode cX1_takeAll 5 = .ok (.putfield 35, 3) := by decide +kernel
theorem dX1_takeAll_8 : decode cX1_takeAll 8 = .ok (.aload_n 0, 1) := by decide +kernel
theorem dX1_takeAll_9 : decode cX1_takeAll 9 = .ok (.aload_n 1, 1) := by decide +kernel
theorem dX1_takeAll_10 : decode cX1_takeAll 10 = .ok (.getfield 38, 3) := by decide +kernel
theorem dX1_takeAll_13 : decode cX1_takeAll 13 = .ok (.putfield 38, 3) := by decide +kernel
theorem dX1_takeAll_16 : decode cX1_takeAll 16 = .ok (.aload_n 0, 1) := by decide +kernel
theorem dX1_takeAll_17 : decode cX1_takeAll 17 = .ok (.aload_n 1, 1) := by decide +kernel
theorem dX1_takeAll_18 : decode cX1_takeAll 18 = .ok (.getfield 41, 3) := by decide +kernel
theorem dX1_takeAll_21 : decode cX1_takeAll 21 = .ok (.putfield 41, 3) := by decide +kernel
theorem dX1_takeAll_24 : decode cX1_takeAll 24 = .ok (.aload_n 0, 1) := by decide +kernel
theorem dX1_takeAll_25 : decode cX1_takeAll 25 = .ok (.aload_n 1, 1) := by decide +kernel
theorem dX1_takeAll_26 : decode cX1_takeAll 26 = .ok (.getfield 44, 3) := by decide +kernel
theorem dX1_takeAll_29 : decode cX1_takeAll 29 = .ok (.putfield 44, 3) := by decide +kernel
theorem dX1_takeAll_32 : decode cX1_takeAll 32 = .ok (.aload_n 0, 1) := by decide +kernel
theorem dX1_takeAll_33 : decode cX1_takeAll 33 = .ok (.aload_n 1, 1) := by decide +kernel
theorem dX1_takeAll_34 : decode cX1_takeAll 34 = .ok (.getfield 23, 3) := by decide +kernel
theorem dX1_takeAll_37 : decode cX1_takeAll 37 = .ok (.putfield 23, 3) := by decide +kernel
theorem dX1_takeAll_40 : decode cX1_takeAll 40 = .ok (.aload_n 0, 1) := by decide +kernel
theorem dX1_takeAll_41 : decode cX1_takeAll 41 = .ok (.aload_n 1, 1) := by decide +kernel
theorem dX1_takeAll_42 : decode cX1_takeAll 42 = .ok (.getfield 27, 3) := by decide +kernel
theorem dX1_takeAll_45 : decode cX1_takeAll 45 = .ok (.putfield 27, 3) := by decide +kernel
theorem dX1_takeAll_48 : decode cX1_takeAll 48 = .ok (.aload_n 0, 1) := by decide +kernel
theorem dX1_takeAll_49 : decode cX1_takeAll 49 = .ok (.aload_n 1, 1) := by decide +kernel
theorem dX1_takeAll_50 : decode cX1_takeAll 50 = .ok (.getfield 47, 3) := by decide +kernel
theorem dX1_takeAll_53 : decode cX1_takeAll 53 = .ok (.putfield 47, 3) := by decide +kernel
theorem dX1_takeAll_56 : decode cX1_takeAll 56 = .ok (.aload_n 0, 1) := by decide +kernel
theorem dX1_takeAll_57 : decode cX1_takeAll 57 = .ok (.aload_n 1, 1) := by decide +kernel
theorem dX1_takeAll_58 : decode cX1_takeAll 58 = .ok (.getfield 30, 3) := by decide +kernel
theorem dX1_takeAll_61 : decode cX1_takeAll 61 = .ok (.putfield 30, 3) := by decide +kernel
theorem dX1_takeAll_64 : decode cX1_takeAll 64 = .ok (.iconst 0, 1) := by decide +kernel
theorem dX1_takeAll_65 : decode cX1_takeAll 65 = .ok (.istore_n 2, 1) := by decide +kernel
theorem dX1_takeAll_66 : decode cX1_takeAll 66 = .ok (.iload_n 2, 1) := by decide +kernel
theorem dX1_takeAll_67 : decode cX1_takeAll 67 = .ok (.aload_n 0, 1) := by decide +kernel
theorem dX1_takeAll_68 : decode cX1_takeAll 68 = .ok (.getfield 35, 3) := by decide +kernel
theorem dX1_takeAll_71 : decode cX1_takeAll 71 = .ok (.if_icmp .ge 24, 3) := by decide +kernel
theorem dX1_takeAll_74 : decode cX1_takeAll 74 = .ok (.aload_n 0, 1) := by decide +kernel
theorem dX1_takeAll_75 : decode cX1_takeAll 75 = .ok (.getfield 11, 3) := by decide +kernel
theorem dX1_takeAll_78 : decode cX1_takeAll 78 = .ok (.iload_n 2, 1) := by decide +kernel
theorem dX1_takeAll_79 : decode cX1_takeAll 79 = .ok (.aaload, 1) := by decide +kernel
theorem dX1_takeAll_80 : decode cX1_takeAll 80 = .ok (.aload_n 1, 1) := by decide +kernel
theorem dX1_takeAll_81 : decode cX1_takeAll 81 = .ok (.getfield 11, 3) := by decide +kernel
theorem dX1_takeAll_84 : decode cX1_takeAll 84 = .ok (.iload_n 2, 1) := by decide +kernel
theorem dX1_takeAll_85 : decode cX1_takeAll 85 = .ok (.aaload, 1) := by decide +kernel
theorem dX1_takeAll_86 : decode cX1_takeAll 86 = .ok (.invokevirtual 50, 3) := by decide +kernel
theorem dX1_takeAll_89 : decode cX1_takeAll 89 = .ok (.iinc 2 1, 3) := by decide +kernel
theorem dX1_takeAll_92 : decode cX1_takeAll 92 = .ok (.goto (-26), 3) := by decide +kernel
theorem dX1_takeAll_95 : decode cX1_takeAll 95 = .ok (.iconst 0, 1) := by decide +kernel
theorem dX1_takeAll_96 : decode cX1_takeAll 96 = .ok (.istore_n 2, 1) := by decide +kernel
theorem dX1_takeAll_97 : decode cX1_takeAll 97 = .ok (.iload_n 2, 1) := by decide +kernel
theorem dX1_takeAll_98 : decode cX1_takeAll 98 = .ok (.aload_n 0, 1) := by decide +kernel
theorem dX1_takeAll_99 : decode cX1_takeAll 99 = .ok (.getfield 38, 3) := by decide +kernel
theorem dX1_takeAll_102 : decode cX1_takeAll 102 = .ok (.if_icmp .ge 24, 3) := by decide +kernel
theorem dX1_takeAll_105 : decode cX1_takeAll 105 = .ok (.aload_n 0, 1) := by decide +kernel
theorem dX1_takeAll_106 : decode cX1_takeAll 106 = .ok (.getfield 19, 3) := by decide +kernel
theorem dX1_takeAll_109 : decode cX1_takeAll 109 = .ok (.iload_n 2, 1) := by decide +kernel
theorem dX1_takeAll_110 : decode cX1_takeAll 110 = .ok (.aaload, 1) := by decide +kernel
theorem dX1_takeAll_111 : decode cX1_takeAll 111 = .ok (.aload_n 1, 1) := by decide +kernel
theorem dX1_takeAll_112 : decode cX1_takeAll 112 = .ok (.getfield 19, 3) := by decide +kernel
theorem dX1_takeAll_115 : decode cX1_takeAll 115 = .ok (.iload_n 2, 1) := by decide +kernel
theorem dX1_takeAll_116 : decode cX1_takeAll 116 = .ok (.aaload, 1) := by decide +kernel
theorem dX1_takeAll_117 : decode cX1_takeAll 117 = .ok (.invokevirtual 54, 3) := by decide +kernel
theorem dX1_takeAll_120 : decode cX1_takeAll 120 = .ok (.iinc 2 1, 3) := by decide +kernel
theorem dX1_takeAll_123 : decode cX1_takeAll 123 = .ok (.goto (-26), 3) := by decide +kernel
theorem dX1_takeAll_126 : decode cX1_takeAll 126 = .ok (.return_, 1) := by decide +kernel
theorem dX1_addShop_0 : decode cX1_addShop 0 = .ok (.aload_n 0, 1) := by decide +kernel
theorem dX1_addShop_1 : decode cX1_addShop 1 = .ok (.getfield 35, 3) := by decide +kernel
theorem dX1_addShop_4 : decode cX1_addShop 4 = .ok (.bipush 6, 2) := by decide +kernel
theorem dX1_addShop_6 : decode cX1_addShop 6 = .ok (.if_icmp .lt 5, 3) := by decide +kernel
theorem dX1_addShop_9 : decode cX1_addShop 9 = .ok (.iconst (-1), 1) := by decide +kernel
theorem dX1_addShop_10 : decode cX1_addShop 10 = .ok (.ireturn, 1) := by decide +kernel
theorem dX1_addShop_11 : decode cX1_addShop 11 = .ok (.aload_n 0, 1) := by decide +kernel
theorem dX1_addShop_12 : decode cX1_addShop 12 = .ok (.getfield 11, 3) := by decide +kernel
theorem dX1_addShop_15 : decode cX1_addShop 15 = .ok (.aload_n 0, 1) := by decide +kernel
theorem dX1_addShop_16 : decode cX1_addShop 16 = .ok (.getfield 35, 3) := by decide +kernel
theorem dX1_addShop_19 : decode cX1_addShop 19 = .ok (.aaload, 1) := by decide +kernel
theorem dX1_addShop_20 : decode cX1_addShop 20 = .ok (.iload_n 1, 1) := by decide +kernel
theorem dX1_addShop_21 : decode cX1_addShop 21 = .ok (.iload_n 2, 1) := by decide +kernel
theorem dX1_addShop_22 : decode cX1_addShop 22 = .ok (.iload_n 3, 1) := by decide +kernel
theorem dX1_addShop_23 : decode cX1_addShop 23 = .ok (.invokevirtual 58, 3) := by decide +kernel
theorem dX1_addShop_26 : decode cX1_addShop 26 = .ok (.aload_n 0, 1) := by decide +kernel
theorem dX1_addShop_27 : decode cX1_addShop 27 = .ok (.dup, 1) := by decide +kernel
theorem dX1_addShop_28 : decode cX1_addShop 28 = .ok (.getfield 35, 3) := by decide +kernel
theorem dX1_addShop_31 : decode cX1_addShop 31 = .ok (.dup_x1, 1) := by decide +kernel
theorem dX1_addShop_32 : decode cX1_addShop 32 = .ok (.iconst 1, 1) := by decide +kernel
theorem dX1_addShop_33 : decode cX1_addShop 33 = .ok (.iadd, 1) := by decide +kernel
theorem dX1_addShop_34 : decode cX1_addShop 34 = .ok (.putfield 35, 3) := by decide +kernel
theorem dX1_addShop_37 : decode cX1_addShop 37 = .ok (.ireturn, 1) := by decide +kernel
theorem dX1_addChild_0 : decode cX1_addChild 0 = .ok (.aload_n 0, 1) := by decide +kernel
theorem dX1_addChild_1 : decode cX1_addChild 1 = .ok (.getfield 38, 3) := by decide +kernel
theorem dX1_addChild_4 : decode cX1_addChild 4 = .ok (.bipush 6, 2) := by decide +kernel
theorem dX1_addChild_6 : decode cX1_addChild 6 = .ok (.if_icmp .lt 5, 3) := by decide +kernel
theorem dX1_addChild_9 : decode cX1_addChild 9 = .ok (.iconst (-1), 1) := by decide +kernel
theorem dX1_addChild_10 : decode cX1_addChild 10 = .ok (.ireturn, 1) := by decide +kernel
theorem dX1_addChild_11 : decode cX1_addChild 11 = .ok (.aload_n 0, 1) := by decide +kernel
theorem dX1_addChild_12 : decode cX1_addChild 12 = .ok (.getfield 19, 3) := by decide +kernel
theorem dX1_addChild_15 : decode cX1_addChild 15 = .ok (.aload_n 0, 1) := by decide +kernel
theorem dX1_addChild_16 : decode cX1_addChild 16 = .ok (.getfield 38, 3) := by decide +kernel
theorem dX1_addChild_19 : decode cX1_addChild 19 = .ok (.aaload, 1) := by decide +kernel
theorem dX1_addChild_20 : decode cX1_addChild 20 = .ok (.iload_n 1, 1) := by decide +kernel
theorem dX1_addChild_21 : decode cX1_addChild 21 = .ok (.iload_n 2, 1) := by decide +kernel
theorem dX1_addChild_22 : decode cX1_addChild 22 = .ok (.invokevirtual 62, 3) := by decide +kernel
theorem dX1_addChild_25 : decode cX1_addChild 25 = .ok (.aload_n 0, 1) := by decide +kernel
theorem dX1_addChild_26 : decode cX1_addChild 26 = .ok (.dup, 1) := by decide +kernel
theorem dX1_addChild_27 : decode cX1_addChild 27 = .ok (.getfield 38, 3) := by decide +kernel
theorem dX1_addChild_30 : decode cX1_addChild 30 = .ok (.dup_x1, 1) := by decide +kernel
theorem dX1_addChild_31 : decode cX1_addChild 31 = .ok (.iconst 1, 1) := by decide +kernel
theorem dX1_addChild_32 : decode cX1_addChild 32 = .ok (.iadd, 1) := by decide +kernel
theorem dX1_addChild_33 : decode cX1_addChild 33 = .ok (.putfield 38, 3) := by decide +kernel
theorem dX1_addChild_36 : decode cX1_addChild 36 = .ok (.ireturn, 1) := by decide +kernel
theorem dX1_can_0 : decode cX1_can 0 = .ok (.iload_n 1, 1) := by decide +kernel
theorem dX1_can_1 : decode cX1_can 1 = .ok (.ifCond .lt 11, 3) := by decide +kernel
theorem dX1_can_4 : decode cX1_can 4 = .ok (.iload_n 1, 1) := by decide +kernel
theorem dX1_can_5 : decode cX1_can 5 = .ok (.aload_n 0, 1) := by decide +kernel
theorem dX1_can_6 : decode cX1_can 6 = .ok (.getfield 38, 3) := by decide +kernel
theorem dX1_can_9 : decode cX1_can 9 = .ok (.if_icmp .lt 5, 3) := by decide +kernel
theorem dX1_can_12 : decode cX1_can 12 = .ok (.iconst 0, 1) := by decide +kernel
theorem dX1_can_13 : decode cX1_can 13 = .ok (.ireturn, 1) := by decide +kernel
theorem dX1_can_14 : decode cX1_can 14 = .ok (.iload_n 2, 1) := by decide +kernel
theorem dX1_can_15 : decode cX1_can 15 = .ok (.tableswitch 87 0 3 #[29, 31, 44, 69], 29) := by decide +kernel
theorem dX1_can_44 : decode cX1_can 44 = .ok (.iconst 1, 1) := by decide +kernel
theorem dX1_can_45 : decode cX1_can 45 = .ok (.ireturn, 1) := by decide +kernel
theorem dX1_can_46 : decode cX1_can 46 = .ok (.aload_n 0, 1) := by decide +kernel
theorem dX1_can_47 : decode cX1_can 47 = .ok (.getfield 27, 3) := by decide +kernel
theorem dX1_can_50 : decode cX1_can 50 = .ok (.ifCond .le 7, 3) := by decide +kernel
theorem dX1_can_53 : decode cX1_can 53 = .ok (.iconst 1, 1) := by decide +kernel
theorem dX1_can_54 : decode cX1_can 54 = .ok (.goto 4, 3) := by decide +kernel
theorem dX1_can_57 : decode cX1_can 57 = .ok (.iconst 0, 1) := by decide +kernel
theorem dX1_can_58 : decode cX1_can 58 = .ok (.ireturn, 1) := by decide +kernel
theorem dX1_can_59 : decode cX1_can 59 = .ok (.aload_n 0, 1) := by decide +kernel
theorem dX1_can_60 : decode cX1_can 60 = .ok (.getfield 23, 3) := by decide +kernel
theorem dX1_can_63 : decode cX1_can 63 = .ok (.ifCond .le 19, 3) := by decide +kernel
theorem dX1_can_66 : decode cX1_can 66 = .ok (.aload_n 0, 1) := by decide +kernel
theorem dX1_can_67 : decode cX1_can 67 = .ok (.getfield 19, 3) := by decide +kernel
theorem dX1_can_70 : decode cX1_can 70 = .ok (.iload_n 1, 1) := by decide +kernel
theorem dX1_can_71 : decode cX1_can 71 = .ok (.aaload, 1) := by decide +kernel
theorem dX1_can_72 : decode cX1_can 72 = .ok (.getfield 66, 3) := by decide +kernel
theorem dX1_can_75 : decode cX1_can 75 = .ok (.ifCond .le 7, 3) := by decide +kernel
theorem dX1_can_78 : decode cX1_can 78 = .ok (.iconst 1, 1) := by decide +kernel
theorem dX1_can_79 : decode cX1_can 79 = .ok (.goto 4, 3) := by decide +kernel
theorem dX1_can_82 : decode cX1_can 82 = .ok (.iconst 0, 1) := by decide +kernel
theorem dX1_can_83 : decode cX1_can 83 = .ok (.ireturn, 1) := by decide +kernel
theorem dX1_can_84 : decode cX1_can 84 = .ok (.aload_n 0, 1) := by decide +kernel
theorem dX1_can_85 : decode cX1_can 85 = .ok (.getfield 19, 3) := by decide +kernel
theorem dX1_can_88 : decode cX1_can 88 = .ok (.iload_n 1, 1) := by decide +kernel
theorem dX1_can_89 : decode cX1_can 89 = .ok (.aaload, 1) := by decide +kernel
theorem dX1_can_90 : decode cX1_can 90 = .ok (.getfield 69, 3) := by decide +kernel
theorem dX1_can_93 : decode cX1_can 93 = .ok (.ifCond .le 7, 3) := by decide +kernel
theorem dX1_can_96 : decode cX1_can 96 = .ok (.iconst 1, 1) := by decide +kernel
theorem dX1_can_97 : decode cX1_can 97 = .ok (.goto 4, 3) := by decide +kernel
theorem dX1_can_100 : decode cX1_can 100 = .ok (.iconst 0, 1) := by decide +kernel
theorem dX1_can_101 : decode cX1_can 101 = .ok (.ireturn, 1) := by decide +kernel
theorem dX1_can_102 : decode cX1_can 102 = .ok (.iload_n 2, 1) := by decide +kernel
theorem dX1_can_103 : decode cX1_can 103 = .ok (.bipush 10, 2) := by decide +kernel
theorem dX1_can_105 : decode cX1_can 105 = .ok (.if_icmp .lt 14, 3) := by decide +kernel
theorem dX1_can_108 : decode cX1_can 108 = .ok (.iload_n 2, 1) := by decide +kernel
theorem dX1_can_109 : decode cX1_can 109 = .ok (.bipush 10, 2) := by decide +kernel
theorem dX1_can_111 : decode cX1_can 111 = .ok (.isub, 1) := by decide +kernel
theorem dX1_can_112 : decode cX1_can 112 = .ok (.aload_n 0, 1) := by decide +kernel
theorem dX1_can_113 : decode cX1_can 113 = .ok (.getfield 35, 3) := by decide +kernel
theorem dX1_can_116 : decode cX1_can 116 = .ok (.if_icmp .lt 5, 3) := by decide +kernel
theorem dX1_can_119 : decode cX1_can 119 = .ok (.iconst 0, 1) := by decide +kernel
theorem dX1_can_120 : decode cX1_can 120 = .ok (.ireturn, 1) := by decide +kernel
theorem dX1_can_121 : decode cX1_can 121 = .ok (.iload_n 2, 1) := by decide +kernel
theorem dX1_can_122 : decode cX1_can 122 = .ok (.bipush 10, 2) := by decide +kernel
theorem dX1_can_124 : decode cX1_can 124 = .ok (.isub, 1) := by decide +kernel
theorem dX1_can_125 : decode cX1_can 125 = .ok (.istore_n 3, 1) := by decide +kernel
theorem dX1_can_126 : decode cX1_can 126 = .ok (.aload_n 0, 1) := by decide +kernel
theorem dX1_can_127 : decode cX1_can 127 = .ok (.aload_n 0, 1) := by decide +kernel
theorem dX1_can_128 : decode cX1_can 128 = .ok (.getfield 19, 3) := by decide +kernel
theorem dX1_can_131 : decode cX1_can 131 = .ok (.iload_n 1, 1) := by decide +kernel
theorem dX1_can_132 : decode cX1_can 132 = .ok (.aaload, 1) := by decide +kernel
theorem dX1_can_133 : decode cX1_can 133 = .ok (.iload_n 3, 1) := by decide +kernel
theorem dX1_can_134 : decode cX1_can 134 = .ok (.aload_n 0, 1) := by decide +kernel
theorem dX1_can_135 : decode cX1_can 135 = .ok (.getfield 11, 3) := by decide +kernel
theorem dX1_can_138 : decode cX1_can 138 = .ok (.iload_n 3, 1) := by decide +kernel
theorem dX1_can_139 : decode cX1_can 139 = .ok (.aaload, 1) := by decide +kernel
theorem dX1_can_140 : decode cX1_can 140 = .ok (.invokevirtual 72, 3) := by decide +kernel
theorem dX1_can_143 : decode cX1_can 143 = .ok (.invokevirtual 76, 3) := by decide +kernel
theorem dX1_can_146 : decode cX1_can 146 = .ok (.ireturn, 1) := by decide +kernel
theorem dX1_canBuy_0 : decode cX1_canBuy 0 = .ok (.aload_n 1, 1) := by decide +kernel
theorem dX1_canBuy_1 : decode cX1_canBuy 1 = .ok (.getfield 80, 3) := by decide +kernel
theorem dX1_canBuy_4 : decode cX1_canBuy 4 = .ok (.iload_n 2, 1) := by decide +kernel
theorem dX1_canBuy_5 : decode cX1_canBuy 5 = .ok (.if_icmp .ne 5, 3) := by decide +kernel
theorem dX1_canBuy_8 : decode cX1_canBuy 8 = .ok (.iconst 0, 1) := by decide +kernel
theorem dX1_canBuy_9 : decode cX1_canBuy 9 = .ok (.ireturn, 1) := by decide +kernel
theorem dX1_canBuy_10 : decode cX1_canBuy 10 = .ok (.iload_n 3, 1) := by decide +kernel
theorem dX1_canBuy_11 : decode cX1_canBuy 11 = .ok (.aload_n 0, 1) := by decide +kernel
theorem dX1_canBuy_12 : decode cX1_canBuy 12 = .ok (.getfield 11, 3) := by decide +kernel
theorem dX1_canBuy_15 : decode cX1_canBuy 15 = .ok (.iload_n 2, 1) := by decide +kernel
theorem dX1_canBuy_16 : decode cX1_canBuy 16 = .ok (.aaload, 1) := by decide +kernel
theorem dX1_canBuy_17 : decode cX1_canBuy 17 = .ok (.invokevirtual 83, 3) := by decide +kernel
theorem dX1_canBuy_20 : decode cX1_canBuy 20 = .ok (.ifCond .eq 10, 3) := by decide +kernel
theorem dX1_canBuy_23 : decode cX1_canBuy 23 = .ok (.aload_n 1, 1) := by decide +kernel
theorem dX1_canBuy_24 : decode cX1_canBuy 24 = .ok (.getfield 87, 3) := by decide +kernel
theorem dX1_canBuy_27 : decode cX1_canBuy 27 = .ok (.goto 12, 3) := by decide +kernel
theorem dX1_canBuy_30 : decode cX1_canBuy 30 = .ok (.aload_n 1, 1) := by decide +kernel
theorem dX1_canBuy_31 : decode cX1_canBuy 31 = .ok (.getfield 66, 3) := by decide +kernel
theorem dX1_canBuy_34 : decode cX1_canBuy 34 = .ok (.aload_n 1, 1) := by decide +kernel
theorem dX1_canBuy_35 : decode cX1_canBuy 35 = .ok (.getfield 87, 3) := by decide +kernel
theorem dX1_canBuy_38 : decode cX1_canBuy 38 = .ok (.iadd, 1) := by decide +kernel
theorem dX1_canBuy_39 : decode cX1_canBuy 39 = .ok (.if_icmp .gt 7, 3) := by decide +kernel
theorem dX1_canBuy_42 : decode cX1_canBuy 42 = .ok (.iconst 1, 1) := by decide +kernel
theorem dX1_canBuy_43 : decode cX1_canBuy 43 = .ok (.goto 4, 3) := by decide +kernel
theorem dX1_canBuy_46 : decode cX1_canBuy 46 = .ok (.iconst 0, 1) := by decide +kernel
theorem dX1_canBuy_47 : decode cX1_canBuy 47 = .ok (.ireturn, 1) := by decide +kernel
theorem dX1_perform_0 : decode cX1_perform 0 = .ok (.aload_n 0, 1) := by decide +kernel
theorem dX1_perform_1 : decode cX1_perform 1 = .ok (.getfield 19, 3) := by decide +kernel
theorem dX1_perform_4 : decode cX1_perform 4 = .ok (.iload_n 1, 1) := by decide +kernel
theorem dX1_perform_5 : decode cX1_perform 5 = .ok (.aaload, 1) := by decide +kernel
theorem dX1_perform_6 : decode cX1_perform 6 = .ok (.astore_n 3, 1) := by decide +kernel
theorem dX1_perform_7 : decode cX1_perform 7 = .ok (.iload_n 2, 1) := by decide +kernel
theorem dX1_perform_8 : decode cX1_perform 8 = .ok (.tableswitch 123 0 3 #[32, 35, 69, 103], 32) := by decide +kernel
theorem dX1_perform_40 : decode cX1_perform 40 = .ok (.goto 100, 3) := by decide +kernel
theorem dX1_perform_43 : decode cX1_perform 43 = .ok (.aload_n 3, 1) := by decide +kernel
theorem dX1_perform_44 : decode cX1_perform 44 = .ok (.getfield 90, 3) := by decide +kernel
theorem dX1_perform_47 : decode cX1_perform 47 = .ok (.aload_n 0, 1) := by decide +kernel
theorem dX1_perform_48 : decode cX1_perform 48 = .ok (.getfield 27, 3) := by decide +kernel
theorem dX1_perform_51 : decode cX1_perform 51 = .ok (.invokestatic 93, 3) := by decide +kernel
theorem dX1_perform_54 : decode cX1_perform 54 = .ok (.istore 4, 2) := by decide +kernel
theorem dX1_perform_56 : decode cX1_perform 56 = .ok (.aload_n 0, 1) := by decide +kernel
theorem dX1_perform_57 : decode cX1_perform 57 = .ok (.dup, 1) := by decide +kernel
theorem dX1_perform_58 : decode cX1_perform 58 = .ok (.getfield 27, 3) := by decide +kernel
theorem dX1_perform_61 : decode cX1_perform 61 = .ok (.iload 4, 2) := by decide +kernel
theorem dX1_perform_63 : decode cX1_perform 63 = .ok (.isub, 1) := by decide +kernel
theorem dX1_perform_64 : decode cX1_perform 64 = .ok (.putfield 27, 3) := by decide +kernel
theorem dX1_perform_67 : decode cX1_perform 67 = .ok (.aload_n 3, 1) := by decide +kernel
theorem dX1_perform_68 : decode cX1_perform 68 = .ok (.iload 4, 2) := by decide +kernel
theorem dX1_perform_70 : decode cX1_perform 70 = .ok (.iconst 0, 1) := by decide +kernel
theorem dX1_perform_71 : decode cX1_perform 71 = .ok (.invokevirtual 99, 3) := by decide +kernel
theorem dX1_perform_74 : decode cX1_perform 74 = .ok (.goto 66, 3) := by decide +kernel
theorem dX1_perform_77 : decode cX1_perform 77 = .ok (.aload_n 0, 1) := by decide +kernel
theorem dX1_perform_78 : decode cX1_perform 78 = .ok (.getfield 23, 3) := by decide +kernel
theorem dX1_perform_81 : decode cX1_perform 81 = .ok (.aload_n 3, 1) := by decide +kernel
theorem dX1_perform_82 : decode cX1_perform 82 = .ok (.getfield 66, 3) := by decide +kernel
theorem dX1_perform_85 : decode cX1_perform 85 = .ok (.invokestatic 93, 3) := by decide +kernel
theorem dX1_perform_88 : decode cX1_perform 88 = .ok (.istore 5, 2) := by decide +kernel
theorem dX1_perform_90 : decode cX1_perform 90 = .ok (.aload_n 3, 1) := by decide +kernel
theorem dX1_perform_91 : decode cX1_perform 91 = .ok (.dup, 1) := by decide +kernel
theorem dX1_perform_92 : decode cX1_perform 92 = .ok (.getfield 66, 3) := by decide +kernel
theorem dX1_perform_95 : decode cX1_perform 95 = .ok (.iload 5, 2) := by decide +kernel
theorem dX1_perform_97 : decode cX1_perform 97 = .ok (.isub, 1) := by decide +kernel
theorem dX1_perform_98 : decode cX1_perform 98 = .ok (.putfield 66, 3) := by decide +kernel
theorem dX1_perform_101 : decode cX1_perform 101 = .ok (.aload_n 3, 1) := by decide +kernel
theorem dX1_perform_102 : decode cX1_perform 102 = .ok (.iconst 0, 1) := by decide +kernel
theorem dX1_perform_103 : decode cX1_perform 103 = .ok (.iload 5, 2) := by decide +kernel
theorem dX1_perform_105 : decode cX1_perform 105 = .ok (.invokevirtual 99, 3) := by decide +kernel
theorem dX1_perform_108 : decode cX1_perform 108 = .ok (.goto 32, 3) := by decide +kernel
theorem dX1_perform_111 : decode cX1_perform 111 = .ok (.aload_n 3, 1) := by decide +kernel
theorem dX1_perform_112 : decode cX1_perform 112 = .ok (.dup, 1) := by decide +kernel
theorem dX1_perform_113 : decode cX1_perform 113 = .ok (.getfield 69, 3) := by decide +kernel
theorem dX1_perform_116 : decode cX1_perform 116 = .ok (.iconst 1, 1) := by decide +kernel
theorem dX1_perform_117 : decode cX1_perform 117 = .ok (.isub, 1) := by decide +kernel
theorem dX1_perform_118 : decode cX1_perform 118 = .ok (.putfield 69, 3) := by decide +kernel
theorem dX1_perform_121 : decode cX1_perform 121 = .ok (.aload_n 3, 1) := by decide +kernel
theorem dX1_perform_122 : decode cX1_perform 122 = .ok (.bipush 10, 2) := by decide +kernel
theorem dX1_perform_124 : decode cX1_perform 124 = .ok (.iconst 0, 1) := by decide +kernel
theorem dX1_perform_125 : decode cX1_perform 125 = .ok (.invokevirtual 99, 3) := by decide +kernel
theorem dX1_perform_128 : decode cX1_perform 128 = .ok (.goto 12, 3) := by decide +kernel
theorem dX1_perform_131 : decode cX1_perform 131 = .ok (.aload_n 0, 1) := by decide +kernel
theorem dX1_perform_132 : decode cX1_perform 132 = .ok (.aload_n 3, 1) := by decide +kernel
theorem dX1_perform_133 : decode cX1_perform 133 = .ok (.iload_n 2, 1) := by decide +kernel
theorem dX1_perform_134 : decode cX1_perform 134 = .ok (.bipush 10, 2) := by decide +kernel
theorem dX1_perform_136 : decode cX1_perform 136 = .ok (.isub, 1) := by decide +kernel
theorem dX1_perform_137 : decode cX1_perform 137 = .ok (.invokevirtual 102, 3) := by decide +kernel
theorem dX1_perform_140 : decode cX1_perform 140 = .ok (.return_, 1) := by decide +kernel
theorem dX1_buy_0 : decode cX1_buy 0 = .ok (.iload_n 2, 1) := by decide +kernel
theorem dX1_buy_1 : decode cX1_buy 1 = .ok (.ifCond .lt 11, 3) := by decide +kernel
theorem dX1_buy_4 : decode cX1_buy 4 = .ok (.iload_n 2, 1) := by decide +kernel
theorem dX1_buy_5 : decode cX1_buy 5 = .ok (.aload_n 0, 1) := by decide +kernel
theorem dX1_buy_6 : decode cX1_buy 6 = .ok (.getfield 35, 3) := by decide +kernel
theorem dX1_buy_9 : decode cX1_buy 9 = .ok (.if_icmp .lt 4, 3) := by decide +kernel
theorem dX1_buy_12 : decode cX1_buy 12 = .ok (.return_, 1) := by decide +kernel
theorem dX1_buy_13 : decode cX1_buy 13 = .ok (.aload_n 0, 1) := by decide +kernel
theorem dX1_buy_14 : decode cX1_buy 14 = .ok (.getfield 11, 3) := by decide +kernel
theorem dX1_buy_17 : decode cX1_buy 17 = .ok (.iload_n 2, 1) := by decide +kernel
theorem dX1_buy_18 : decode cX1_buy 18 = .ok (.aaload, 1) := by decide +kernel
theorem dX1_buy_19 : decode cX1_buy 19 = .ok (.astore_n 3, 1) := by decide +kernel
theorem dX1_buy_20 : decode cX1_buy 20 = .ok (.aload_n 3, 1) := by decide +kernel
theorem dX1_buy_21 : decode cX1_buy 21 = .ok (.invokevirtual 72, 3) := by decide +kernel
theorem dX1_buy_24 : decode cX1_buy 24 = .ok (.istore 4, 2) := by decide +kernel
theorem dX1_buy_26 : decode cX1_buy 26 = .ok (.aload_n 3, 1) := by decide +kernel
theorem dX1_buy_27 : decode cX1_buy 27 = .ok (.invokevirtual 83, 3) := by decide +kernel
theorem dX1_buy_30 : decode cX1_buy 30 = .ok (.ifCond .eq 7, 3) := by decide +kernel
theorem dX1_buy_33 : decode cX1_buy 33 = .ok (.iconst 0, 1) := by decide +kernel
theorem dX1_buy_34 : decode cX1_buy 34 = .ok (.goto 12, 3) := by decide +kernel
theorem dX1_buy_37 : decode cX1_buy 37 = .ok (.aload_n 1, 1) := by decide +kernel
theorem dX1_buy_38 : decode cX1_buy 38 = .ok (.getfield 66, 3) := by decide +kernel
theorem dX1_buy_41 : decode cX1_buy 41 = .ok (.iload 4, 2) := by decide +kernel
theorem dX1_buy_43 : decode cX1_buy 43 = .ok (.invokestatic 93, 3) := by decide +kernel
theorem dX1_buy_46 : decode cX1_buy 46 = .ok (.istore 5, 2) := by decide +kernel
theorem dX1_buy_48 : decode cX1_buy 48 = .ok (.iload 4, 2) := by decide +kernel
theorem dX1_buy_50 : decode cX1_buy 50 = .ok (.iload 5, 2) := by decide +kernel
theorem dX1_buy_52 : decode cX1_buy 52 = .ok (.isub, 1) := by decide +kernel
theorem dX1_buy_53 : decode cX1_buy 53 = .ok (.istore 6, 2) := by decide +kernel
theorem dX1_buy_55 : decode cX1_buy 55 = .ok (.aload_n 1, 1) := by decide +kernel
theorem dX1_buy_56 : decode cX1_buy 56 = .ok (.dup, 1) := by decide +kernel
theorem dX1_buy_57 : decode cX1_buy 57 = .ok (.getfield 66, 3) := by decide +kernel
theorem dX1_buy_60 : decode cX1_buy 60 = .ok (.iload 5, 2) := by decide +kernel
theorem dX1_buy_62 : decode cX1_buy 62 = .ok (.isub, 1) := by decide +kernel
theorem dX1_buy_63 : decode cX1_buy 63 = .ok (.putfield 66, 3) := by decide +kernel
theorem dX1_buy_66 : decode cX1_buy 66 = .ok (.aload_n 1, 1) := by decide +kernel
theorem dX1_buy_67 : decode cX1_buy 67 = .ok (.dup, 1) := by decide +kernel
theorem dX1_buy_68 : decode cX1_buy 68 = .ok (.getfield 87, 3) := by decide +kernel
theorem dX1_buy_71 : decode cX1_buy 71 = .ok (.iload 6, 2) := by decide +kernel
theorem dX1_buy_73 : decode cX1_buy 73 = .ok (.isub, 1) := by decide +kernel
theorem dX1_buy_74 : decode cX1_buy 74 = .ok (.putfield 87, 3) := by decide +kernel
theorem dX1_buy_77 : decode cX1_buy 77 = .ok (.aload_n 1, 1) := by decide +kernel
theorem dX1_buy_78 : decode cX1_buy 78 = .ok (.dup, 1) := by decide +kernel
theorem dX1_buy_79 : decode cX1_buy 79 = .ok (.getfield 106, 3) := by decide +kernel
theorem dX1_buy_82 : decode cX1_buy 82 = .ok (.iconst 1, 1) := by decide +kernel
theorem dX1_buy_83 : decode cX1_buy 83 = .ok (.iadd, 1) := by decide +kernel
theorem dX1_buy_84 : decode cX1_buy 84 = .ok (.putfield 106, 3) := by decide +kernel
theorem dX1_buy_87 : decode cX1_buy 87 = .ok (.aload_n 3, 1) := by decide +kernel
theorem dX1_buy_88 : decode cX1_buy 88 = .ok (.dup, 1) := by decide +kernel
theorem dX1_buy_89 : decode cX1_buy 89 = .ok (.getfield 109, 3) := by decide +kernel
theorem dX1_buy_92 : decode cX1_buy 92 = .ok (.iconst 1, 1) := by decide +kernel
theorem dX1_buy_93 : decode cX1_buy 93 = .ok (.iadd, 1) := by decide +kernel
theorem dX1_buy_94 : decode cX1_buy 94 = .ok (.putfield 109, 3) := by decide +kernel
theorem dX1_buy_97 : decode cX1_buy 97 = .ok (.aload_n 3, 1) := by decide +kernel
theorem dX1_buy_98 : decode cX1_buy 98 = .ok (.iconst 0, 1) := by decide +kernel
theorem dX1_buy_99 : decode cX1_buy 99 = .ok (.putfield 112, 3) := by decide +kernel
theorem dX1_buy_102 : decode cX1_buy 102 = .ok (.aload_n 3, 1) := by decide +kernel
theorem dX1_buy_103 : decode cX1_buy 103 = .ok (.iconst 1, 1) := by decide +kernel
theorem dX1_buy_104 : decode cX1_buy 104 = .ok (.putfield 115, 3) := by decide +kernel
theorem dX1_buy_107 : decode cX1_buy 107 = .ok (.aload_n 0, 1) := by decide +kernel
theorem dX1_buy_108 : decode cX1_buy 108 = .ok (.dup, 1) := by decide +kernel
theorem dX1_buy_109 : decode cX1_buy 109 = .ok (.getfield 44, 3) := by decide +kernel
theorem dX1_buy_112 : decode cX1_buy 112 = .ok (.iload 4, 2) := by decide +kernel
theorem dX1_buy_114 : decode cX1_buy 114 = .ok (.iadd, 1) := by decide +kernel
theorem dX1_buy_115 : decode cX1_buy 115 = .ok (.putfield 44, 3) := by decide +kernel
theorem dX1_buy_118 : decode cX1_buy 118 = .ok (.aload_n 0, 1) := by decide +kernel
theorem dX1_buy_119 : decode cX1_buy 119 = .ok (.dup, 1) := by decide +kernel
theorem dX1_buy_120 : decode cX1_buy 120 = .ok (.getfield 47, 3) := by decide +kernel
theorem dX1_buy_123 : decode cX1_buy 123 = .ok (.iconst 1, 1) := by decide +kernel
theorem dX1_buy_124 : decode cX1_buy 124 = .ok (.iadd, 1) := by decide +kernel
theorem dX1_buy_125 : decode cX1_buy 125 = .ok (.putfield 47, 3) := by decide +kernel
theorem dX1_buy_128 : decode cX1_buy 128 = .ok (.iconst 0, 1) := by decide +kernel
theorem dX1_buy_129 : decode cX1_buy 129 = .ok (.istore 7, 2) := by decide +kernel
theorem dX1_buy_131 : decode cX1_buy 131 = .ok (.iload 7, 2) := by decide +kernel
theorem dX1_buy_133 : decode cX1_buy 133 = .ok (.aload_n 0, 1) := by decide +kernel
theorem dX1_buy_134 : decode cX1_buy 134 = .ok (.getfield 38, 3) := by decide +kernel
theorem dX1_buy_137 : decode cX1_buy 137 = .ok (.if_icmp .ge 38, 3) := by decide +kernel
theorem dX1_buy_140 : decode cX1_buy 140 = .ok (.aload_n 0, 1) := by decide +kernel
theorem dX1_buy_141 : decode cX1_buy 141 = .ok (.getfield 19, 3) := by decide +kernel
theorem dX1_buy_144 : decode cX1_buy 144 = .ok (.iload 7, 2) := by decide +kernel
theorem dX1_buy_146 : decode cX1_buy 146 = .ok (.aaload, 1) := by decide +kernel
theorem dX1_buy_147 : decode cX1_buy 147 = .ok (.getfield 80, 3) := by decide +kernel
theorem dX1_buy_150 : decode cX1_buy 150 = .ok (.iload_n 2, 1) := by decide +kernel
theorem dX1_buy_151 : decode cX1_buy 151 = .ok (.if_icmp .ne 18, 3) := by decide +kernel
theorem dX1_buy_154 : decode cX1_buy 154 = .ok (.aload_n 0, 1) := by decide +kernel
theorem dX1_buy_155 : decode cX1_buy 155 = .ok (.getfield 19, 3) := by decide +kernel
theorem dX1_buy_158 : decode cX1_buy 158 = .ok (.iload 7, 2) := by decide +kernel
theorem dX1_buy_160 : decode cX1_buy 160 = .ok (.aaload, 1) := by decide +kernel
theorem dX1_buy_161 : decode cX1_buy 161 = .ok (.iload 5, 2) := by decide +kernel
theorem dX1_buy_163 : decode cX1_buy 163 = .ok (.iload 6, 2) := by decide +kernel
theorem dX1_buy_165 : decode cX1_buy 165 = .ok (.invokevirtual 99, 3) := by decide +kernel
theorem dX1_buy_168 : decode cX1_buy 168 = .ok (.return_, 1) := by decide +kernel
theorem dX1_buy_169 : decode cX1_buy 169 = .ok (.iinc 7 1, 3) := by decide +kernel
theorem dX1_buy_172 : decode cX1_buy 172 = .ok (.goto (-41), 3) := by decide +kernel
theorem dX1_buy_175 : decode cX1_buy 175 = .ok (.return_, 1) := by decide +kernel
theorem dX1_deedBy_0 : decode cX1_deedBy 0 = .ok (.aload_n 0, 1) := by decide +kernel
theorem dX1_deedBy_1 : decode cX1_deedBy 1 = .ok (.getfield 19, 3) := by decide +kernel
theorem dX1_deedBy_4 : decode cX1_deedBy 4 = .ok (.iload_n 2, 1) := by decide +kernel
theorem dX1_deedBy_5 : decode cX1_deedBy 5 = .ok (.aaload, 1) := by decide +kernel
theorem dX1_deedBy_6 : decode cX1_deedBy 6 = .ok (.astore_n 3, 1) := by decide +kernel
theorem dX1_deedBy_7 : decode cX1_deedBy 7 = .ok (.aload_n 0, 1) := by decide +kernel
theorem dX1_deedBy_8 : decode cX1_deedBy 8 = .ok (.getfield 27, 3) := by decide +kernel
theorem dX1_deedBy_11 : decode cX1_deedBy 11 = .ok (.ifCond .le 7, 3) := by decide +kernel
theorem dX1_deedBy_14 : decode cX1_deedBy 14 = .ok (.iconst 1, 1) := by decide +kernel
theorem dX1_deedBy_15 : decode cX1_deedBy 15 = .ok (.goto 4, 3) := by decide +kernel
theorem dX1_deedBy_18 : decode cX1_deedBy 18 = .ok (.iconst 0, 1) := by decide +kernel
theorem dX1_deedBy_19 : decode cX1_deedBy 19 = .ok (.istore 4, 2) := by decide +kernel
theorem dX1_deedBy_21 : decode cX1_deedBy 21 = .ok (.iload_n 1, 1) := by decide +kernel
theorem dX1_deedBy_22 : decode cX1_deedBy 22 = .ok (.iconst 1, 1) := by decide +kernel
theorem dX1_deedBy_23 : decode cX1_deedBy 23 = .ok (.if_icmp .ne 15, 3) := by decide +kernel
theorem dX1_deedBy_26 : decode cX1_deedBy 26 = .ok (.aload_n 3, 1) := by decide +kernel
theorem dX1_deedBy_27 : decode cX1_deedBy 27 = .ok (.getfield 66, 3) := by decide +kernel
theorem dX1_deedBy_30 : decode cX1_deedBy 30 = .ok (.bipush 50, 2) := by decide +kernel
theorem dX1_deedBy_32 : decode cX1_deedBy 32 = .ok (.if_icmp .ge 6, 3) := by decide +kernel
theorem dX1_deedBy_35 : decode cX1_deedBy 35 = .ok (.iload 4, 2) := by decide +kernel
theorem dX1_deedBy_37 : decode cX1_deedBy 37 = .ok (.ireturn, 1) := by decide +kernel
theorem dX1_deedBy_38 : decode cX1_deedBy 38 = .ok (.iload_n 1, 1) := by decide +kernel
theorem dX1_deedBy_39 : decode cX1_deedBy 39 = .ok (.iconst 2, 1) := by decide +kernel
theorem dX1_deedBy_40 : decode cX1_deedBy 40 = .ok (.if_icmp .ne 27, 3) := by decide +kernel
theorem dX1_deedBy_43 : decode cX1_deedBy 43 = .ok (.aload_n 3, 1) := by decide +kernel
theorem dX1_deedBy_44 : decode cX1_deedBy 44 = .ok (.getfield 66, 3) := by decide +kernel
theorem dX1_deedBy_47 : decode cX1_deedBy 47 = .ok (.aload_n 3, 1) := by decide +kernel
theorem dX1_deedBy_48 : decode cX1_deedBy 48 = .ok (.getfield 87, 3) := by decide +kernel
theorem dX1_deedBy_51 : decode cX1_deedBy 51 = .ok (.if_icmp .le 16, 3) := by decide +kernel
theorem dX1_deedBy_54 : decode cX1_deedBy 54 = .ok (.aload_n 0, 1) := by decide +kernel
theorem dX1_deedBy_55 : decode cX1_deedBy 55 = .ok (.getfield 23, 3) := by decide +kernel
theorem dX1_deedBy_58 : decode cX1_deedBy 58 = .ok (.ifCond .le 7, 3) := by decide +kernel
theorem dX1_deedBy_61 : decode cX1_deedBy 61 = .ok (.iconst 2, 1) := by decide +kernel
theorem dX1_deedBy_62 : decode cX1_deedBy 62 = .ok (.goto 4, 3) := by decide +kernel
theorem dX1_deedBy_65 : decode cX1_deedBy 65 = .ok (.iconst 0, 1) := by decide +kernel
theorem dX1_deedBy_66 : decode cX1_deedBy 66 = .ok (.ireturn, 1) := by decide +kernel
theorem dX1_deedBy_67 : decode cX1_deedBy 67 = .ok (.iload_n 1, 1) := by decide +kernel
theorem dX1_deedBy_68 : decode cX1_deedBy 68 = .ok (.iconst 3, 1) := by decide +kernel
theorem dX1_deedBy_69 : decode cX1_deedBy 69 = .ok (.if_icmp .ne 13, 3) := by decide +kernel
theorem dX1_deedBy_72 : decode cX1_deedBy 72 = .ok (.bipush 10, 2) := by decide +kernel
theorem dX1_deedBy_74 : decode cX1_deedBy 74 = .ok (.aload_n 3, 1) := by decide +kernel
theorem dX1_deedBy_75 : decode cX1_deedBy 75 = .ok (.getfield 90, 3) := by decide +kernel
theorem dX1_deedBy_78 : decode cX1_deedBy 78 = .ok (.imul, 1) := by decide +kernel
theorem dX1_deedBy_79 : decode cX1_deedBy 79 = .ok (.goto 6, 3) := by decide +kernel
theorem dX1_deedBy_82 : decode cX1_deedBy 82 = .ok (.sipush 9999, 3) := by decide +kernel
theorem dX1_deedBy_85 : decode cX1_deedBy 85 = .ok (.istore 5, 2) := by decide +kernel
theorem dX1_deedBy_87 : decode cX1_deedBy 87 = .ok (.aload_n 0, 1) := by decide +kernel
theorem dX1_deedBy_88 : decode cX1_deedBy 88 = .ok (.aload_n 3, 1) := by decide +kernel
theorem dX1_deedBy_89 : decode cX1_deedBy 89 = .ok (.iload 5, 2) := by decide +kernel
theorem dX1_deedBy_91 : decode cX1_deedBy 91 = .ok (.invokevirtual 119, 3) := by decide +kernel
theorem dX1_deedBy_94 : decode cX1_deedBy 94 = .ok (.istore 6, 2) := by decide +kernel
theorem dX1_deedBy_96 : decode cX1_deedBy 96 = .ok (.iload 6, 2) := by decide +kernel
theorem dX1_deedBy_98 : decode cX1_deedBy 98 = .ok (.iconst (-1), 1) := by decide +kernel
theorem dX1_deedBy_99 : decode cX1_deedBy 99 = .ok (.if_icmp .ne 8, 3) := by decide +kernel
theorem dX1_deedBy_102 : decode cX1_deedBy 102 = .ok (.iload 4, 2) := by decide +kernel
theorem dX1_deedBy_104 : decode cX1_deedBy 104 = .ok (.goto 8, 3) := by decide +kernel
theorem dX1_deedBy_107 : decode cX1_deedBy 107 = .ok (.bipush 10, 2) := by decide +kernel
theorem dX1_deedBy_109 : decode cX1_deedBy 109 = .ok (.iload 6, 2) := by decide +kernel
theorem dX1_deedBy_111 : decode cX1_deedBy 111 = .ok (.iadd, 1) := by decide +kernel
theorem dX1_deedBy_112 : decode cX1_deedBy 112 = .ok (.ireturn, 1) := by decide +kernel
theorem dX1_cheapestFor_0 : decode cX1_cheapestFor 0 = .ok (.iconst (-1), 1) := by decide +kernel
theorem dX1_cheapestFor_1 : decode cX1_cheapestFor 1 = .ok (.istore_n 3, 1) := by decide +kernel
theorem dX1_cheapestFor_2 : decode cX1_cheapestFor 2 = .ok (.iload_n 2, 1) := by decide +kernel
theorem dX1_cheapestFor_3 : decode cX1_cheapestFor 3 = .ok (.iconst 1, 1) := by decide +kernel
theorem dX1_cheapestFor_4 : decode cX1_cheapestFor 4 = .ok (.iadd, 1) := by decide +kernel
theorem dX1_cheapestFor_5 : decode cX1_cheapestFor 5 = .ok (.istore 4, 2) := by decide +kernel
theorem dX1_cheapestFor_7 : decode cX1_cheapestFor 7 = .ok (.iconst 0, 1) := by decide +kernel
theorem dX1_cheapestFor_8 : decode cX1_cheapestFor 8 = .ok (.istore 5, 2) := by decide +kernel
theorem dX1_cheapestFor_10 : decode cX1_cheapestFor 10 = .ok (.iload 5, 2) := by decide +kernel
theorem dX1_cheapestFor_12 : decode cX1_cheapestFor 12 = .ok (.aload_n 0, 1) := by decide +kernel
theorem dX1_cheapestFor_13 : decode cX1_cheapestFor 13 = .ok (.getfield 35, 3) := by decide +kernel
theorem dX1_cheapestFor_16 : decode cX1_cheapestFor 16 = .ok (.if_icmp .ge 47, 3) := by decide +kernel
theorem dX1_cheapestFor_19 : decode cX1_cheapestFor 19 = .ok (.aload_n 0, 1) := by decide +kernel
theorem dX1_cheapestFor_20 : decode cX1_cheapestFor 20 = .ok (.getfield 11, 3) := by decide +kernel
theorem dX1_cheapestFor_23 : decode cX1_cheapestFor 23 = .ok (.iload 5, 2) := by decide +kernel
theorem dX1_cheapestFor_25 : decode cX1_cheapestFor 25 = .ok (.aaload, 1) := by decide +kernel
theorem dX1_cheapestFor_26 : decode cX1_cheapestFor 26 = .ok (.invokevirtual 72, 3) := by decide +kernel
theorem dX1_cheapestFor_29 : decode cX1_cheapestFor 29 = .ok (.istore 6, 2) := by decide +kernel
theorem dX1_cheapestFor_31 : decode cX1_cheapestFor 31 = .ok (.iload 6, 2) := by decide +kernel
theorem dX1_cheapestFor_33 : decode cX1_cheapestFor 33 = .ok (.iload 4, 2) := by decide +kernel
theorem dX1_cheapestFor_35 : decode cX1_cheapestFor 35 = .ok (.if_icmp .ge 22, 3) := by decide +kernel
theorem dX1_cheapestFor_38 : decode cX1_cheapestFor 38 = .ok (.aload_n 0, 1) := by decide +kernel
theorem dX1_cheapestFor_39 : decode cX1_cheapestFor 39 = .ok (.aload_n 1, 1) := by decide +kernel
theorem dX1_cheapestFor_40 : decode cX1_cheapestFor 40 = .ok (.iload 5, 2) := by decide +kernel
theorem dX1_cheapestFor_42 : decode cX1_cheapestFor 42 = .ok (.iload 6, 2) := by decide +kernel
theorem dX1_cheapestFor_44 : decode cX1_cheapestFor 44 = .ok (.invokevirtual 76, 3) := by decide +kernel
theorem dX1_cheapestFor_47 : decode cX1_cheapestFor 47 = .ok (.ifCond .eq 10, 3) := by decide +kernel
theorem dX1_cheapestFor_50 : decode cX1_cheapestFor 50 = .ok (.iload 5, 2) := by decide +kernel
theorem dX1_cheapestFor_52 : decode cX1_cheapestFor 52 = .ok (.istore_n 3, 1) := by decide +kernel
theorem dX1_cheapestFor_53 : decode cX1_cheapestFor 53 = .ok (.iload 6, 2) := by decide +kernel
theorem dX1_cheapestFor_55 : decode cX1_cheapestFor 55 = .ok (.istore 4, 2) := by decide +kernel
theorem dX1_cheapestFor_57 : decode cX1_cheapestFor 57 = .ok (.iinc 5 1, 3) := by decide +kernel
theorem dX1_cheapestFor_60 : decode cX1_cheapestFor 60 = .ok (.goto (-50), 3) := by decide +kernel
theorem dX1_cheapestFor_63 : decode cX1_cheapestFor 63 = .ok (.iload_n 3, 1) := by decide +kernel
theorem dX1_cheapestFor_64 : decode cX1_cheapestFor 64 = .ok (.ireturn, 1) := by decide +kernel
theorem dX1_passMinutes_0 : decode cX1_passMinutes 0 = .ok (.iconst 0, 1) := by decide +kernel
theorem dX1_passMinutes_1 : decode cX1_passMinutes 1 = .ok (.istore_n 3, 1) := by decide +kernel
theorem dX1_passMinutes_2 : decode cX1_passMinutes 2 = .ok (.iload_n 3, 1) := by decide +kernel
theorem dX1_passMinutes_3 : decode cX1_passMinutes 3 = .ok (.iload_n 2, 1) := by decide +kernel
theorem dX1_passMinutes_4 : decode cX1_passMinutes 4 = .ok (.if_icmp .ge 48, 3) := by decide +kernel
theorem dX1_passMinutes_7 : decode cX1_passMinutes 7 = .ok (.aload_n 0, 1) := by decide +kernel
theorem dX1_passMinutes_8 : decode cX1_passMinutes 8 = .ok (.invokevirtual 123, 3) := by decide +kernel
theorem dX1_passMinutes_11 : decode cX1_passMinutes 11 = .ok (.iconst 0, 1) := by decide +kernel
theorem dX1_passMinutes_12 : decode cX1_passMinutes 12 = .ok (.istore 4, 2) := by decide +kernel
theorem dX1_passMinutes_14 : decode cX1_passMinutes 14 = .ok (.iload 4, 2) := by decide +kernel
theorem dX1_passMinutes_16 : decode cX1_passMinutes 16 = .ok (.aload_n 0, 1) := by decide +kernel
theorem dX1_passMinutes_17 : decode cX1_passMinutes 17 = .ok (.getfield 38, 3) := by decide +kernel
theorem dX1_passMinutes_20 : decode cX1_passMinutes 20 = .ok (.if_icmp .ge 22, 3) := by decide +kernel
theorem dX1_passMinutes_23 : decode cX1_passMinutes 23 = .ok (.aload_n 0, 1) := by decide +kernel
theorem dX1_passMinutes_24 : decode cX1_passMinutes 24 = .ok (.iload 4, 2) := by decide +kernel
theorem dX1_passMinutes_26 : decode cX1_passMinutes 26 = .ok (.aload_n 0, 1) := by decide +kernel
theorem dX1_passMinutes_27 : decode cX1_passMinutes 27 = .ok (.iload_n 1, 1) := by decide +kernel
theorem dX1_passMinutes_28 : decode cX1_passMinutes 28 = .ok (.iload 4, 2) := by decide +kernel
theorem dX1_passMinutes_30 : decode cX1_passMinutes 30 = .ok (.invokevirtual 126, 3) := by decide +kernel
theorem dX1_passMinutes_33 : decode cX1_passMinutes 33 = .ok (.invokevirtual 129, 3) := by decide +kernel
theorem dX1_passMinutes_36 : decode cX1_passMinutes 36 = .ok (.iinc 4 1, 3) := by decide +kernel
theorem dX1_passMinutes_39 : decode cX1_passMinutes 39 = .ok (.goto (-25), 3) := by decide +kernel
theorem dX1_passMinutes_42 : decode cX1_passMinutes 42 = .ok (.aload_n 0, 1) := by decide +kernel
theorem dX1_passMinutes_43 : decode cX1_passMinutes 43 = .ok (.invokevirtual 132, 3) := by decide +kernel
theorem dX1_passMinutes_46 : decode cX1_passMinutes 46 = .ok (.iinc 3 1, 3) := by decide +kernel
theorem dX1_passMinutes_49 : decode cX1_passMinutes 49 = .ok (.goto (-47), 3) := by decide +kernel
theorem dX1_passMinutes_52 : decode cX1_passMinutes 52 = .ok (.return_, 1) := by decide +kernel
theorem dX1_passDrawnMinutes_0 : decode cX1_passDrawnMinutes 0 = .ok (.iconst 0, 1) := by decide +kernel
theorem dX1_passDrawnMinutes_1 : decode cX1_passDrawnMinutes 1 = .ok (.istore_n 2, 1) := by decide +kernel
theorem dX1_passDrawnMinutes_2 : decode cX1_passDrawnMinutes 2 = .ok (.iload_n 2, 1) := by decide +kernel
theorem dX1_passDrawnMinutes_3 : decode cX1_passDrawnMinutes 3 = .ok (.iload_n 1, 1) := by decide +kernel
theorem dX1_passDrawnMinutes_4 : decode cX1_passDrawnMinutes 4 = .ok (.if_icmp .ge 43, 3) := by decide +kernel
theorem dX1_passDrawnMinutes_7 : decode cX1_passDrawnMinutes 7 = .ok (.aload_n 0, 1) := by decide +kernel
theorem dX1_passDrawnMinutes_8 : decode cX1_passDrawnMinutes 8 = .ok (.invokevirtual 123, 3) := by decide +kernel
theorem dX1_passDrawnMinutes_11 : decode cX1_passDrawnMinutes 11 = .ok (.iconst 0, 1) := by decide +kernel
theorem dX1_passDrawnMinutes_12 : decode cX1_passDrawnMinutes 12 = .ok (.istore_n 3, 1) := by decide +kernel
theorem dX1_passDrawnMinutes_13 : decode cX1_passDrawnMinutes 13 = .ok (.iload_n 3, 1) := by decide +kernel
theorem dX1_passDrawnMinutes_14 : decode cX1_passDrawnMinutes 14 = .ok (.aload_n 0, 1) := by decide +kernel
theorem dX1_passDrawnMinutes_15 : decode cX1_passDrawnMinutes 15 = .ok (.getfield 38, 3) := by decide +kernel
theorem dX1_passDrawnMinutes_18 : decode cX1_passDrawnMinutes 18 = .ok (.if_icmp .ge 19, 3) := by decide +kernel
theorem dX1_passDrawnMinutes_21 : decode cX1_passDrawnMinutes 21 = .ok (.aload_n 0, 1) := by decide +kernel
theorem dX1_passDrawnMinutes_22 : decode cX1_passDrawnMinutes 22 = .ok (.iload_n 3, 1) := by decide +kernel
theorem dX1_passDrawnMinutes_23 : decode cX1_passDrawnMinutes 23 = .ok (.aload_n 0, 1) := by decide +kernel
theorem dX1_passDrawnMinutes_24 : decode cX1_passDrawnMinutes 24 = .ok (.iload_n 3, 1) := by decide +kernel
theorem dX1_passDrawnMinutes_25 : decode cX1_passDrawnMinutes 25 = .ok (.invokevirtual 135, 3) := by decide +kernel
theorem dX1_passDrawnMinutes_28 : decode cX1_passDrawnMinutes 28 = .ok (.invokevirtual 129, 3) := by decide +kernel
theorem dX1_passDrawnMinutes_31 : decode cX1_passDrawnMinutes 31 = .ok (.iinc 3 1, 3) := by decide +kernel
theorem dX1_passDrawnMinutes_34 : decode cX1_passDrawnMinutes 34 = .ok (.goto (-21), 3) := by decide +kernel
theorem dX1_passDrawnMinutes_37 : decode cX1_passDrawnMinutes 37 = .ok (.aload_n 0, 1) := by decide +kernel
theorem dX1_passDrawnMinutes_38 : decode cX1_passDrawnMinutes 38 = .ok (.invokevirtual 132, 3) := by decide +kernel
theorem dX1_passDrawnMinutes_41 : decode cX1_passDrawnMinutes 41 = .ok (.iinc 2 1, 3) := by decide +kernel
theorem dX1_passDrawnMinutes_44 : decode cX1_passDrawnMinutes 44 = .ok (.goto (-42), 3) := by decide +kernel
theorem dX1_passDrawnMinutes_47 : decode cX1_passDrawnMinutes 47 = .ok (.return_, 1) := by decide +kernel
theorem dX1_drawnDeed_0 : decode cX1_drawnDeed 0 = .ok (.aload_n 0, 1) := by decide +kernel
theorem dX1_drawnDeed_1 : decode cX1_drawnDeed 1 = .ok (.aload_n 0, 1) := by decide +kernel
theorem dX1_drawnDeed_2 : decode cX1_drawnDeed 2 = .ok (.getfield 30, 3) := by decide +kernel
theorem dX1_drawnDeed_5 : decode cX1_drawnDeed 5 = .ok (.ldc 139, 2) := by decide +kernel
theorem dX1_drawnDeed_7 : decode cX1_drawnDeed 7 = .ok (.imul, 1) := by decide +kernel
theorem dX1_drawnDeed_8 : decode cX1_drawnDeed 8 = .ok (.sipush 12345, 3) := by decide +kernel
theorem dX1_drawnDeed_11 : decode cX1_drawnDeed 11 = .ok (.iadd, 1) := by decide +kernel
theorem dX1_drawnDeed_12 : decode cX1_drawnDeed 12 = .ok (.putfield 30, 3) := by decide +kernel
theorem dX1_drawnDeed_15 : decode cX1_drawnDeed 15 = .ok (.aload_n 0, 1) := by decide +kernel
theorem dX1_drawnDeed_16 : decode cX1_drawnDeed 16 = .ok (.getfield 30, 3) := by decide +kernel
theorem dX1_drawnDeed_19 : decode cX1_drawnDeed 19 = .ok (.bipush 16, 2) := by decide +kernel
theorem dX1_drawnDeed_21 : decode cX1_drawnDeed 21 = .ok (.iushr, 1) := by decide +kernel
theorem dX1_drawnDeed_22 : decode cX1_drawnDeed 22 = .ok (.iconst 4, 1) := by decide +kernel
theorem dX1_drawnDeed_23 : decode cX1_drawnDeed 23 = .ok (.irem, 1) := by decide +kernel
theorem dX1_drawnDeed_24 : decode cX1_drawnDeed 24 = .ok (.tableswitch 65 0 2 #[28, 35, 50], 28) := by decide +kernel
theorem dX1_drawnDeed_52 : decode cX1_drawnDeed 52 = .ok (.aload_n 0, 1) := by decide +kernel
theorem dX1_drawnDeed_53 : decode cX1_drawnDeed 53 = .ok (.iconst 0, 1) := by decide +kernel
theorem dX1_drawnDeed_54 : decode cX1_drawnDeed 54 = .ok (.iload_n 1, 1) := by decide +kernel
theorem dX1_drawnDeed_55 : decode cX1_drawnDeed 55 = .ok (.invokevirtual 126, 3) := by decide +kernel
theorem dX1_drawnDeed_58 : decode cX1_drawnDeed 58 = .ok (.ireturn, 1) := by decide +kernel
theorem dX1_drawnDeed_59 : decode cX1_drawnDeed 59 = .ok (.aload_n 0, 1) := by decide +kernel
theorem dX1_drawnDeed_60 : decode cX1_drawnDeed 60 = .ok (.iload_n 1, 1) := by decide +kernel
theorem dX1_drawnDeed_61 : decode cX1_drawnDeed 61 = .ok (.iconst 1, 1) := by decide +kernel
theorem dX1_drawnDeed_62 : decode cX1_drawnDeed 62 = .ok (.invokevirtual 140, 3) := by decide +kernel
theorem dX1_drawnDeed_65 : decode cX1_drawnDeed 65 = .ok (.ifCond .eq 7, 3) := by decide +kernel
theorem dX1_drawnDeed_68 : decode cX1_drawnDeed 68 = .ok (.iconst 1, 1) := by decide +kernel
theorem dX1_drawnDeed_69 : decode cX1_drawnDeed 69 = .ok (.goto 4, 3) := by decide +kernel
theorem dX1_drawnDeed_72 : decode cX1_drawnDeed 72 = .ok (.iconst 0, 1) := by decide +kernel
theorem dX1_drawnDeed_73 : decode cX1_drawnDeed 73 = .ok (.ireturn, 1) := by decide +kernel
theorem dX1_drawnDeed_74 : decode cX1_drawnDeed 74 = .ok (.aload_n 0, 1) := by decide +kernel
theorem dX1_drawnDeed_75 : decode cX1_drawnDeed 75 = .ok (.iload_n 1, 1) := by decide +kernel
theorem dX1_drawnDeed_76 : decode cX1_drawnDeed 76 = .ok (.iconst 2, 1) := by decide +kernel
theorem dX1_drawnDeed_77 : decode cX1_drawnDeed 77 = .ok (.invokevirtual 140, 3) := by decide +kernel
theorem dX1_drawnDeed_80 : decode cX1_drawnDeed 80 = .ok (.ifCond .eq 7, 3) := by decide +kernel
theorem dX1_drawnDeed_83 : decode cX1_drawnDeed 83 = .ok (.iconst 2, 1) := by decide +kernel
theorem dX1_drawnDeed_84 : decode cX1_drawnDeed 84 = .ok (.goto 4, 3) := by decide +kernel
theorem dX1_drawnDeed_87 : decode cX1_drawnDeed 87 = .ok (.iconst 0, 1) := by decide +kernel
theorem dX1_drawnDeed_88 : decode cX1_drawnDeed 88 = .ok (.ireturn, 1) := by decide +kernel
theorem dX1_drawnDeed_89 : decode cX1_drawnDeed 89 = .ok (.aload_n 0, 1) := by decide +kernel
theorem dX1_drawnDeed_90 : decode cX1_drawnDeed 90 = .ok (.iconst 3, 1) := by decide +kernel
theorem dX1_drawnDeed_91 : decode cX1_drawnDeed 91 = .ok (.iload_n 1, 1) := by decide +kernel
theorem dX1_drawnDeed_92 : decode cX1_drawnDeed 92 = .ok (.invokevirtual 126, 3) := by decide +kernel
theorem dX1_drawnDeed_95 : decode cX1_drawnDeed 95 = .ok (.ireturn, 1) := by decide +kernel
theorem dX1_beginMinute_0 : decode cX1_beginMinute 0 = .ok (.iconst 0, 1) := by decide +kernel
theorem dX1_beginMinute_1 : decode cX1_beginMinute 1 = .ok (.istore_n 1, 1) := by decide +kernel
theorem dX1_beginMinute_2 : decode cX1_beginMinute 2 = .ok (.iload_n 1, 1) := by decide +kernel
theorem dX1_beginMinute_3 : decode cX1_beginMinute 3 = .ok (.aload_n 0, 1) := by decide +kernel
theorem dX1_beginMinute_4 : decode cX1_beginMinute 4 = .ok (.getfield 35, 3) := by decide +kernel
theorem dX1_beginMinute_7 : decode cX1_beginMinute 7 = .ok (.if_icmp .ge 19, 3) := by decide +kernel
theorem dX1_beginMinute_10 : decode cX1_beginMinute 10 = .ok (.aload_n 0, 1) := by decide +kernel
theorem dX1_beginMinute_11 : decode cX1_beginMinute 11 = .ok (.getfield 11, 3) := by decide +kernel
theorem dX1_beginMinute_14 : decode cX1_beginMinute 14 = .ok (.iload_n 1, 1) := by decide +kernel
theorem dX1_beginMinute_15 : decode cX1_beginMinute 15 = .ok (.aaload, 1) := by decide +kernel
theorem dX1_beginMinute_16 : decode cX1_beginMinute 16 = .ok (.iconst 0, 1) := by decide +kernel
theorem dX1_beginMinute_17 : decode cX1_beginMinute 17 = .ok (.putfield 115, 3) := by decide +kernel
theorem dX1_beginMinute_20 : decode cX1_beginMinute 20 = .ok (.iinc 1 1, 3) := by decide +kernel
theorem dX1_beginMinute_23 : decode cX1_beginMinute 23 = .ok (.goto (-21), 3) := by decide +kernel
theorem dX1_beginMinute_26 : decode cX1_beginMinute 26 = .ok (.return_, 1) := by decide +kernel
theorem dX1_endMinute_0 : decode cX1_endMinute 0 = .ok (.iconst 0, 1) := by decide +kernel
theorem dX1_endMinute_1 : decode cX1_endMinute 1 = .ok (.istore_n 1, 1) := by decide +kernel
theorem dX1_endMinute_2 : decode cX1_endMinute 2 = .ok (.iload_n 1, 1) := by decide +kernel
theorem dX1_endMinute_3 : decode cX1_endMinute 3 = .ok (.aload_n 0, 1) := by decide +kernel
theorem dX1_endMinute_4 : decode cX1_endMinute 4 = .ok (.getfield 35, 3) := by decide +kernel
theorem dX1_endMinute_7 : decode cX1_endMinute 7 = .ok (.if_icmp .ge 47, 3) := by decide +kernel
theorem dX1_endMinute_10 : decode cX1_endMinute 10 = .ok (.aload_n 0, 1) := by decide +kernel
theorem dX1_endMinute_11 : decode cX1_endMinute 11 = .ok (.getfield 11, 3) := by decide +kernel
theorem dX1_endMinute_14 : decode cX1_endMinute 14 = .ok (.iload_n 1, 1) := by decide +kernel
theorem dX1_endMinute_15 : decode cX1_endMinute 15 = .ok (.aaload, 1) := by decide +kernel
theorem dX1_endMinute_16 : decode cX1_endMinute 16 = .ok (.getfield 115, 3) := by decide +kernel
theorem dX1_endMinute_19 : decode cX1_endMinute 19 = .ok (.ifCond .ne 29, 3) := by decide +kernel
theorem dX1_endMinute_22 : decode cX1_endMinute 22 = .ok (.aload_n 0, 1) := by decide +kernel
theorem dX1_endMinute_23 : decode cX1_endMinute 23 = .ok (.getfield 11, 3) := by decide +kernel
theorem dX1_endMinute_26 : decode cX1_endMinute 26 = .ok (.iload_n 1, 1) := by decide +kernel
theorem dX1_endMinute_27 : decode cX1_endMinute 27 = .ok (.aaload, 1) := by decide +kernel
theorem dX1_endMinute_28 : decode cX1_endMinute 28 = .ok (.sipush 999, 3) := by decide +kernel
theorem dX1_endMinute_31 : decode cX1_endMinute 31 = .ok (.aload_n 0, 1) := by decide +kernel
theorem dX1_endMinute_32 : decode cX1_endMinute 32 = .ok (.getfield 11, 3) := by decide +kernel
theorem dX1_endMinute_35 : decode cX1_endMinute 35 = .ok (.iload_n 1, 1) := by decide +kernel
theorem dX1_endMinute_36 : decode cX1_endMinute 36 = .ok (.aaload, 1) := by decide +kernel
theorem dX1_endMinute_37 : decode cX1_endMinute 37 = .ok (.getfield 112, 3) := by decide +kernel
theorem dX1_endMinute_40 : decode cX1_endMinute 40 = .ok (.iconst 1, 1) := by decide +kernel
theorem dX1_endMinute_41 : decode cX1_endMinute 41 = .ok (.iadd, 1) := by decide +kernel
theorem dX1_endMinute_42 : decode cX1_endMinute 42 = .ok (.invokestatic 93, 3) := by decide +kernel
theorem dX1_endMinute_45 : decode cX1_endMinute 45 = .ok (.putfield 112, 3) := by decide +kernel
theorem dX1_endMinute_48 : decode cX1_endMinute 48 = .ok (.iinc 1 1, 3) := by decide +kernel
theorem dX1_endMinute_51 : decode cX1_endMinute 51 = .ok (.goto (-49), 3) := by decide +kernel
theorem dX1_endMinute_54 : decode cX1_endMinute 54 = .ok (.aload_n 0, 1) := by decide +kernel
theorem dX1_endMinute_55 : decode cX1_endMinute 55 = .ok (.dup, 1) := by decide +kernel
theorem dX1_endMinute_56 : decode cX1_endMinute 56 = .ok (.getfield 41, 3) := by decide +kernel
theorem dX1_endMinute_59 : decode cX1_endMinute 59 = .ok (.iconst 1, 1) := by decide +kernel
theorem dX1_endMinute_60 : decode cX1_endMinute 60 = .ok (.iadd, 1) := by decide +kernel
theorem dX1_endMinute_61 : decode cX1_endMinute 61 = .ok (.putfield 41, 3) := by decide +kernel
theorem dX1_endMinute_64 : decode cX1_endMinute 64 = .ok (.return_, 1) := by decide +kernel
theorem dX1_passNight_0 : decode cX1_passNight 0 = .ok (.iconst 0, 1) := by decide +kernel
theorem dX1_passNight_1 : decode cX1_passNight 1 = .ok (.istore_n 1, 1) := by decide +kernel
theorem dX1_passNight_2 : decode cX1_passNight 2 = .ok (.iconst 0, 1) := by decide +kernel
theorem dX1_passNight_3 : decode cX1_passNight 3 = .ok (.istore_n 2, 1) := by decide +kernel
theorem dX1_passNight_4 : decode cX1_passNight 4 = .ok (.iload_n 2, 1) := by decide +kernel
theorem dX1_passNight_5 : decode cX1_passNight 5 = .ok (.aload_n 0, 1) := by decide +kernel
theorem dX1_passNight_6 : decode cX1_passNight 6 = .ok (.getfield 38, 3) := by decide +kernel
theorem dX1_passNight_9 : decode cX1_passNight 9 = .ok (.if_icmp .ge 45, 3) := by decide +kernel
theorem dX1_passNight_12 : decode cX1_passNight 12 = .ok (.aload_n 0, 1) := by decide +kernel
theorem dX1_passNight_13 : decode cX1_passNight 13 = .ok (.getfield 19, 3) := by decide +kernel
theorem dX1_passNight_16 : decode cX1_passNight 16 = .ok (.iload_n 2, 1) := by decide +kernel
theorem dX1_passNight_17 : decode cX1_passNight 17 = .ok (.aaload, 1) := by decide +kernel
theorem dX1_passNight_18 : decode cX1_passNight 18 = .ok (.getfield 66, 3) := by decide +kernel
theorem dX1_passNight_21 : decode cX1_passNight 21 = .ok (.iconst 2, 1) := by decide +kernel
theorem dX1_passNight_22 : decode cX1_passNight 22 = .ok (.idiv, 1) := by decide +kernel
theorem dX1_passNight_23 : decode cX1_passNight 23 = .ok (.istore_n 3, 1) := by decide +kernel
theorem dX1_passNight_24 : decode cX1_passNight 24 = .ok (.iload_n 1, 1) := by decide +kernel
theorem dX1_passNight_25 : decode cX1_passNight 25 = .ok (.aload_n 0, 1) := by decide +kernel
theorem dX1_passNight_26 : decode cX1_passNight 26 = .ok (.getfield 19, 3) := by decide +kernel
theorem dX1_passNight_29 : decode cX1_passNight 29 = .ok (.iload_n 2, 1) := by decide +kernel
theorem dX1_passNight_30 : decode cX1_passNight 30 = .ok (.aaload, 1) := by decide +kernel
theorem dX1_passNight_31 : decode cX1_passNight 31 = .ok (.getfield 66, 3) := by decide +kernel
theorem dX1_passNight_34 : decode cX1_passNight 34 = .ok (.iload_n 3, 1) := by decide +kernel
theorem dX1_passNight_35 : decode cX1_passNight 35 = .ok (.isub, 1) := by decide +kernel
theorem dX1_passNight_36 : decode cX1_passNight 36 = .ok (.iadd, 1) := by decide +kernel
theorem dX1_passNight_37 : decode cX1_passNight 37 = .ok (.istore_n 1, 1) := by decide +kernel
theorem dX1_passNight_38 : decode cX1_passNight 38 = .ok (.aload_n 0, 1) := by decide +kernel
theorem dX1_passNight_39 : decode cX1_passNight 39 = .ok (.getfield 19, 3) := by decide +kernel
theorem dX1_passNight_42 : decode cX1_passNight 42 = .ok (.iload_n 2, 1) := by decide +kernel
theorem dX1_passNight_43 : decode cX1_passNight 43 = .ok (.aaload, 1) := by decide +kernel
theorem dX1_passNight_44 : decode cX1_passNight 44 = .ok (.iload_n 3, 1) := by decide +kernel
theorem dX1_passNight_45 : decode cX1_passNight 45 = .ok (.putfield 66, 3) := by decide +kernel
theorem dX1_passNight_48 : decode cX1_passNight 48 = .ok (.iinc 2 1, 3) := by decide +kernel
theorem dX1_passNight_51 : decode cX1_passNight 51 = .ok (.goto (-47), 3) := by decide +kernel
theorem dX1_passNight_54 : decode cX1_passNight 54 = .ok (.iconst 0, 1) := by decide +kernel
theorem dX1_passNight_55 : decode cX1_passNight 55 = .ok (.istore_n 2, 1) := by decide +kernel
theorem dX1_passNight_56 : decode cX1_passNight 56 = .ok (.iload_n 2, 1) := by decide +kernel
theorem dX1_passNight_57 : decode cX1_passNight 57 = .ok (.aload_n 0, 1) := by decide +kernel
theorem dX1_passNight_58 : decode cX1_passNight 58 = .ok (.getfield 35, 3) := by decide +kernel
theorem dX1_passNight_61 : decode cX1_passNight 61 = .ok (.if_icmp .ge 29, 3) := by decide +kernel
theorem dX1_passNight_64 : decode cX1_passNight 64 = .ok (.aload_n 0, 1) := by decide +kernel
theorem dX1_passNight_65 : decode cX1_passNight 65 = .ok (.getfield 11, 3) := by decide +kernel
theorem dX1_passNight_68 : decode cX1_passNight 68 = .ok (.iload_n 2, 1) := by decide +kernel
theorem dX1_passNight_69 : decode cX1_passNight 69 = .ok (.aaload, 1) := by decide +kernel
theorem dX1_passNight_70 : decode cX1_passNight 70 = .ok (.iconst 0, 1) := by decide +kernel
theorem dX1_passNight_71 : decode cX1_passNight 71 = .ok (.putfield 109, 3) := by decide +kernel
theorem dX1_passNight_74 : decode cX1_passNight 74 = .ok (.aload_n 0, 1) := by decide +kernel
theorem dX1_passNight_75 : decode cX1_passNight 75 = .ok (.getfield 11, 3) := by decide +kernel
theorem dX1_passNight_78 : decode cX1_passNight 78 = .ok (.iload_n 2, 1) := by decide +kernel
theorem dX1_passNight_79 : decode cX1_passNight 79 = .ok (.aaload, 1) := by decide +kernel
theorem dX1_passNight_80 : decode cX1_passNight 80 = .ok (.iconst 0, 1) := by decide +kernel
theorem dX1_passNight_81 : decode cX1_passNight 81 = .ok (.putfield 112, 3) := by decide +kernel
theorem dX1_passNight_84 : decode cX1_passNight 84 = .ok (.iinc 2 1, 3) := by decide +kernel
theorem dX1_passNight_87 : decode cX1_passNight 87 = .ok (.goto (-31), 3) := by decide +kernel
theorem dX1_passNight_90 : decode cX1_passNight 90 = .ok (.aload_n 0, 1) := by decide +kernel
theorem dX1_passNight_91 : decode cX1_passNight 91 = .ok (.sipush 999, 3) := by decide +kernel
theorem dX1_passNight_94 : decode cX1_passNight 94 = .ok (.putfield 27, 3) := by decide +kernel
theorem dX1_passNight_97 : decode cX1_passNight 97 = .ok (.iload_n 1, 1) := by decide +kernel
theorem dX1_passNight_98 : decode cX1_passNight 98 = .ok (.ireturn, 1) := by decide +kernel
theorem dX1_noteAsked_0 : decode cX1_noteAsked 0 = .ok (.iconst 0, 1) := by decide +kernel
theorem dX1_noteAsked_1 : decode cX1_noteAsked 1 = .ok (.istore_n 1, 1) := by decide +kernel
theorem dX1_noteAsked_2 : decode cX1_noteAsked 2 = .ok (.iconst 0, 1) := by decide +kernel
theorem dX1_noteAsked_3 : decode cX1_noteAsked 3 = .ok (.istore_n 2, 1) := by decide +kernel
theorem dX1_noteAsked_4 : decode cX1_noteAsked 4 = .ok (.iload_n 2, 1) := by decide +kernel
theorem dX1_noteAsked_5 : decode cX1_noteAsked 5 = .ok (.aload_n 0, 1) := by decide +kernel
theorem dX1_noteAsked_6 : decode cX1_noteAsked 6 = .ok (.getfield 35, 3) := by decide +kernel
theorem dX1_noteAsked_9 : decode cX1_noteAsked 9 = .ok (.if_icmp .ge 52, 3) := by decide +kernel
theorem dX1_noteAsked_12 : decode cX1_noteAsked 12 = .ok (.aload_n 0, 1) := by decide +kernel
theorem dX1_noteAsked_13 : decode cX1_noteAsked 13 = .ok (.getfield 11, 3) := by decide +kernel
theorem dX1_noteAsked_16 : decode cX1_noteAsked 16 = .ok (.iload_n 2, 1) := by decide +kernel
theorem dX1_noteAsked_17 : decode cX1_noteAsked 17 = .ok (.aaload, 1) := by decide +kernel
theorem dX1_noteAsked_18 : decode cX1_noteAsked 18 = .ok (.invokevirtual 72, 3) := by decide +kernel
theorem dX1_noteAsked_21 : decode cX1_noteAsked 21 = .ok (.istore_n 3, 1) := by decide +kernel
theorem dX1_noteAsked_22 : decode cX1_noteAsked 22 = .ok (.iload_n 1, 1) := by decide +kernel
theorem dX1_noteAsked_23 : decode cX1_noteAsked 23 = .ok (.ifCond .ne 16, 3) := by decide +kernel
theorem dX1_noteAsked_26 : decode cX1_noteAsked 26 = .ok (.iload_n 3, 1) := by decide +kernel
theorem dX1_noteAsked_27 : decode cX1_noteAsked 27 = .ok (.aload_n 0, 1) := by decide +kernel
theorem dX1_noteAsked_28 : decode cX1_noteAsked 28 = .ok (.getfield 11, 3) := by decide +kernel
theorem dX1_noteAsked_31 : decode cX1_noteAsked 31 = .ok (.iload_n 2, 1) := by decide +kernel
theorem dX1_noteAsked_32 : decode cX1_noteAsked 32 = .ok (.aaload, 1) := by decide +kernel
theorem dX1_noteAsked_33 : decode cX1_noteAsked 33 = .ok (.getfield 144, 3) := by decide +kernel
theorem dX1_noteAsked_36 : decode cX1_noteAsked 36 = .ok (.if_icmp .eq 7, 3) := by decide +kernel
theorem dX1_noteAsked_39 : decode cX1_noteAsked 39 = .ok (.iconst 1, 1) := by decide +kernel
theorem dX1_noteAsked_40 : decode cX1_noteAsked 40 = .ok (.goto 4, 3) := by decide +kernel
theorem dX1_noteAsked_43 : decode cX1_noteAsked 43 = .ok (.iconst 0, 1) := by decide +kernel
theorem dX1_noteAsked_44 : decode cX1_noteAsked 44 = .ok (.istore_n 1, 1) := by decide +kernel
theorem dX1_noteAsked_45 : decode cX1_noteAsked 45 = .ok (.aload_n 0, 1) := by decide +kernel
theorem dX1_noteAsked_46 : decode cX1_noteAsked 46 = .ok (.getfield 11, 3) := by decide +kernel
theorem dX1_noteAsked_49 : decode cX1_noteAsked 49 = .ok (.iload_n 2, 1) := by decide +kernel
theorem dX1_noteAsked_50 : decode cX1_noteAsked 50 = .ok (.aaload, 1) := by decide +kernel
theorem dX1_noteAsked_51 : decode cX1_noteAsked 51 = .ok (.iload_n 3, 1) := by decide +kernel
theorem dX1_noteAsked_52 : decode cX1_noteAsked 52 = .ok (.putfield 144, 3) := by decide +kernel
theorem dX1_noteAsked_55 : decode cX1_noteAsked 55 = .ok (.iinc 2 1, 3) := by decide +kernel
theorem dX1_noteAsked_58 : decode cX1_noteAsked 58 = .ok (.goto (-54), 3) := by decide +kernel
theorem dX1_noteAsked_61 : decode cX1_noteAsked 61 = .ok (.iload_n 1, 1) := by decide +kernel
theorem dX1_noteAsked_62 : decode cX1_noteAsked 62 = .ok (.ireturn, 1) := by decide +kernel
theorem dX2_init_0 : decode cX2_init 0 = .ok (.aload_n 0, 1) := by decide +kernel
theorem dX2_init_1 : decode cX2_init 1 = .ok (.invokespecial 3, 3) := by decide +kernel
theorem dX2_init_4 : decode cX2_init 4 = .ok (.aload_n 0, 1) := by decide +kernel
theorem dX2_init_5 : decode cX2_init 5 = .ok (.new 9, 3) := by decide +kernel
theorem dX2_init_8 : decode cX2_init 8 = .ok (.dup, 1) := by decide +kernel
theorem dX2_init_9 : decode cX2_init 9 = .ok (.invokespecial 11, 3) := by decide +kernel
theorem dX2_init_12 : decode cX2_init 12 = .ok (.putfield 12, 3) := by decide +kernel
theorem dX2_init_15 : decode cX2_init 15 = .ok (.aload_n 0, 1) := by decide +kernel
theorem dX2_init_16 : decode cX2_init 16 = .ok (.sipush 160, 3) := by decide +kernel
theorem dX2_init_19 : decode cX2_init 19 = .ok (.newarray .int, 2) := by decide +kernel
theorem dX2_init_21 : decode cX2_init 21 = .ok (.putfield 18, 3) := by decide +kernel
theorem dX2_init_24 : decode cX2_init 24 = .ok (.aload_n 0, 1) := by decide +kernel
theorem dX2_init_25 : decode cX2_init 25 = .ok (.iconst (-1), 1) := by decide +kernel
theorem dX2_init_26 : decode cX2_init 26 = .ok (.putfield 22, 3) := by decide +kernel
theorem dX2_init_29 : decode cX2_init 29 = .ok (.return_, 1) := by decide +kernel
theorem dX2_read_0 : decode cX2_read 0 = .ok (.aload_n 0, 1) := by decide +kernel
theorem dX2_read_1 : decode cX2_read 1 = .ok (.getfield 12, 3) := by decide +kernel
theorem dX2_read_4 : decode cX2_read 4 = .ok (.aload_n 1, 1) := by decide +kernel
theorem dX2_read_5 : decode cX2_read 5 = .ok (.invokevirtual 26, 3) := by decide +kernel
theorem dX2_read_8 : decode cX2_read 8 = .ok (.aload_n 0, 1) := by decide +kernel
theorem dX2_read_9 : decode cX2_read 9 = .ok (.aload_n 2, 1) := by decide +kernel
theorem dX2_read_10 : decode cX2_read 10 = .ok (.getfield 30, 3) := by decide +kernel
theorem dX2_read_13 : decode cX2_read 13 = .ok (.putfield 35, 3) := by decide +kernel
theorem dX2_read_16 : decode cX2_read 16 = .ok (.iconst 0, 1) := by decide +kernel
theorem dX2_read_17 : decode cX2_read 17 = .ok (.istore_n 3, 1) := by decide +kernel
theorem dX2_read_18 : decode cX2_read 18 = .ok (.iload_n 3, 1) := by decide +kernel
theorem dX2_read_19 : decode cX2_read 19 = .ok (.aload_n 0, 1) := by decide +kernel
theorem dX2_read_20 : decode cX2_read 20 = .ok (.getfield 35, 3) := by decide +kernel
theorem dX2_read_23 : decode cX2_read 23 = .ok (.if_icmp .ge 27, 3) := by decide +kernel
theorem dX2_read_26 : decode cX2_read 26 = .ok (.iload_n 3, 1) := by decide +kernel
theorem dX2_read_27 : decode cX2_read 27 = .ok (.sipush 160, 3) := by decide +kernel
theorem dX2_read_30 : decode cX2_read 30 = .ok (.if_icmp .ge 20, 3) := by decide +kernel
theorem dX2_read_33 : decode cX2_read 33 = .ok (.aload_n 0, 1) := by decide +kernel
theorem dX2_read_34 : decode cX2_read 34 = .ok (.getfield 18, 3) := by decide +kernel
theorem dX2_read_37 : decode cX2_read 37 = .ok (.iload_n 3, 1) := by decide +kernel
theorem dX2_read_38 : decode cX2_read 38 = .ok (.aload_n 2, 1) := by decide +kernel
theorem dX2_read_39 : decode cX2_read 39 = .ok (.iload_n 3, 1) := by decide +kernel
theorem dX2_read_40 : decode cX2_read 40 = .ok (.invokevirtual 36, 3) := by decide +kernel
theorem dX2_read_43 : decode cX2_read 43 = .ok (.iastore, 1) := by decide +kernel
theorem dX2_read_44 : decode cX2_read 44 = .ok (.iinc 3 1, 3) := by decide +kernel
theorem dX2_read_47 : decode cX2_read 47 = .ok (.goto (-29), 3) := by decide +kernel
theorem dX2_read_50 : decode cX2_read 50 = .ok (.aload_n 0, 1) := by decide +kernel
theorem dX2_read_51 : decode cX2_read 51 = .ok (.iconst 0, 1) := by decide +kernel
theorem dX2_read_52 : decode cX2_read 52 = .ok (.putfield 40, 3) := by decide +kernel
theorem dX2_read_55 : decode cX2_read 55 = .ok (.aload_n 0, 1) := by decide +kernel
theorem dX2_read_56 : decode cX2_read 56 = .ok (.iconst (-1), 1) := by decide +kernel
theorem dX2_read_57 : decode cX2_read 57 = .ok (.putfield 22, 3) := by decide +kernel
theorem dX2_read_60 : decode cX2_read 60 = .ok (.aload_n 0, 1) := by decide +kernel
theorem dX2_read_61 : decode cX2_read 61 = .ok (.invokevirtual 43, 3) := by decide +kernel
theorem dX2_read_64 : decode cX2_read 64 = .ok (.iconst 1, 1) := by decide +kernel
theorem dX2_read_65 : decode cX2_read 65 = .ok (.istore_n 3, 1) := by decide +kernel
theorem dX2_read_66 : decode cX2_read 66 = .ok (.aload_n 0, 1) := by decide +kernel
theorem dX2_read_67 : decode cX2_read 67 = .ok (.getfield 22, 3) := by decide +kernel
theorem dX2_read_70 : decode cX2_read 70 = .ok (.iconst (-1), 1) := by decide +kernel
theorem dX2_read_71 : decode cX2_read 71 = .ok (.if_icmp .ne 37, 3) := by decide +kernel
theorem dX2_read_74 : decode cX2_read 74 = .ok (.aload_n 0, 1) := by decide +kernel
theorem dX2_read_75 : decode cX2_read 75 = .ok (.getfield 40, 3) := by decide +kernel
theorem dX2_read_78 : decode cX2_read 78 = .ok (.aload_n 0, 1) := by decide +kernel
theorem dX2_read_79 : decode cX2_read 79 = .ok (.getfield 35, 3) := by decide +kernel
theorem dX2_read_82 : decode cX2_read 82 = .ok (.if_icmp .ge 26, 3) := by decide +kernel
theorem dX2_read_85 : decode cX2_read 85 = .ok (.iload_n 3, 1) := by decide +kernel
theorem dX2_read_86 : decode cX2_read 86 = .ok (.sipush 160, 3) := by decide +kernel
theorem dX2_read_89 : decode cX2_read 89 = .ok (.if_icmp .ge 19, 3) := by decide +kernel
theorem dX2_read_92 : decode cX2_read 92 = .ok (.aload_n 0, 1) := by decide +kernel
theorem dX2_read_93 : decode cX2_read 93 = .ok (.bipush 59, 2) := by decide +kernel
theorem dX2_read_95 : decode cX2_read 95 = .ok (.invokevirtual 46, 3) := by decide +kernel
theorem dX2_read_98 : decode cX2_read 98 = .ok (.aload_n 0, 1) := by decide +kernel
theorem dX2_read_99 : decode cX2_read 99 = .ok (.invokevirtual 43, 3) := by decide +kernel
theorem dX2_read_102 : decode cX2_read 102 = .ok (.iinc 3 1, 3) := by decide +kernel
theorem dX2_read_105 : decode cX2_read 105 = .ok (.goto (-39), 3) := by decide +kernel
theorem dX2_read_108 : decode cX2_read 108 = .ok (.iload_n 3, 1) := by decide +kernel
theorem dX2_read_109 : decode cX2_read 109 = .ok (.ireturn, 1) := by decide +kernel
theorem dX2_next_0 : decode cX2_next 0 = .ok (.aload_n 0, 1) := by decide +kernel
theorem dX2_next_1 : decode cX2_next 1 = .ok (.getfield 40, 3) := by decide +kernel
theorem dX2_next_4 : decode cX2_next 4 = .ok (.ifCond .lt 36, 3) := by decide +kernel
theorem dX2_next_7 : decode cX2_next 7 = .ok (.aload_n 0, 1) := by decide +kernel
theorem dX2_next_8 : decode cX2_next 8 = .ok (.getfield 40, 3) := by decide +kernel
theorem dX2_next_11 : decode cX2_next 11 = .ok (.aload_n 0, 1) := by decide +kernel
theorem dX2_next_12 : decode cX2_next 12 = .ok (.getfield 35, 3) := by decide +kernel
theorem dX2_next_15 : decode cX2_next 15 = .ok (.if_icmp .ge 25, 3) := by decide +kernel
theorem dX2_next_18 : decode cX2_next 18 = .ok (.aload_n 0, 1) := by decide +kernel
theorem dX2_next_19 : decode cX2_next 19 = .ok (.getfield 40, 3) := by decide +kernel
theorem dX2_next_22 : decode cX2_next 22 = .ok (.sipush 160, 3) := by decide +kernel
theorem dX2_next_25 : decode cX2_next 25 = .ok (.if_icmp .ge 15, 3) := by decide +kernel
theorem dX2_next_28 : decode cX2_next 28 = .ok (.aload_n 0, 1) := by decide +kernel
theorem dX2_next_29 : decode cX2_next 29 = .ok (.getfield 18, 3) := by decide +kernel
theorem dX2_next_32 : decode cX2_next 32 = .ok (.aload_n 0, 1) := by decide +kernel
theorem dX2_next_33 : decode cX2_next 33 = .ok (.getfield 40, 3) := by decide +kernel
theorem dX2_next_36 : decode cX2_next 36 = .ok (.iaload, 1) := by decide +kernel
theorem dX2_next_37 : decode cX2_next 37 = .ok (.goto 4, 3) := by decide +kernel
theorem dX2_next_40 : decode cX2_next 40 = .ok (.iconst (-1), 1) := by decide +kernel
theorem dX2_next_41 : decode cX2_next 41 = .ok (.ireturn, 1) := by decide +kernel
theorem dX2_expect_0 : decode cX2_expect 0 = .ok (.aload_n 0, 1) := by decide +kernel
theorem dX2_expect_1 : decode cX2_expect 1 = .ok (.getfield 22, 3) := by decide +kernel
theorem dX2_expect_4 : decode cX2_expect 4 = .ok (.iconst (-1), 1) := by decide +kernel
theorem dX2_expect_5 : decode cX2_expect 5 = .ok (.if_icmp .eq 4, 3) := by decide +kernel
theorem dX2_expect_8 : decode cX2_expect 8 = .ok (.return_, 1) := by decide +kernel
theorem dX2_expect_9 : decode cX2_expect 9 = .ok (.aload_n 0, 1) := by decide +kernel
theorem dX2_expect_10 : decode cX2_expect 10 = .ok (.invokevirtual 50, 3) := by decide +kernel
theorem dX2_expect_13 : decode cX2_expect 13 = .ok (.iload_n 1, 1) := by decide +kernel
theorem dX2_expect_14 : decode cX2_expect 14 = .ok (.if_icmp .ne 16, 3) := by decide +kernel
theorem dX2_expect_17 : decode cX2_expect 17 = .ok (.aload_n 0, 1) := by decide +kernel
theorem dX2_expect_18 : decode cX2_expect 18 = .ok (.dup, 1) := by decide +kernel
theorem dX2_expect_19 : decode cX2_expect 19 = .ok (.getfield 40, 3) := by decide +kernel
theorem dX2_expect_22 : decode cX2_expect 22 = .ok (.iconst 1, 1) := by decide +kernel
theorem dX2_expect_23 : decode cX2_expect 23 = .ok (.iadd, 1) := by decide +kernel
theorem dX2_expect_24 : decode cX2_expect 24 = .ok (.putfield 40, 3) := by decide +kernel
theorem dX2_expect_27 : decode cX2_expect 27 = .ok (.goto 11, 3) := by decide +kernel
theorem dX2_expect_30 : decode cX2_expect 30 = .ok (.aload_n 0, 1) := by decide +kernel
theorem dX2_expect_31 : decode cX2_expect 31 = .ok (.aload_n 0, 1) := by decide +kernel
theorem dX2_expect_32 : decode cX2_expect 32 = .ok (.getfield 40, 3) := by decide +kernel
theorem dX2_expect_35 : decode cX2_expect 35 = .ok (.invokevirtual 54, 3) := by decide +kernel
theorem dX2_expect_38 : decode cX2_expect 38 = .ok (.return_, 1) := by decide +kernel
theorem dX2_readItem_0 : decode cX2_readItem 0 = .ok (.aload_n 0, 1) := by decide +kernel
theorem dX2_readItem_1 : decode cX2_readItem 1 = .ok (.invokevirtual 50, 3) := by decide +kernel
theorem dX2_readItem_4 : decode cX2_readItem 4 = .ok (.tableswitch 144 99 116 #[95, 130, 144, 102, 144, 144, 116, 144, 109, 144, 144, 137, 144, 144, 144, 144, 88, 123], 88) := by decide +kernel
theorem dX2_readItem_92 : decode cX2_readItem 92 = .ok (.aload_n 0, 1) := by decide +kernel
theorem dX2_readItem_93 : decode cX2_readItem 93 = .ok (.invokevirtual 57, 3) := by decide +kernel
theorem dX2_readItem_96 : decode cX2_readItem 96 = .ok (.goto 60, 3) := by decide +kernel
theorem dX2_readItem_99 : decode cX2_readItem 99 = .ok (.aload_n 0, 1) := by decide +kernel
theorem dX2_readItem_100 : decode cX2_readItem 100 = .ok (.invokevirtual 60, 3) := by decide +kernel
theorem dX2_readItem_103 : decode cX2_readItem 103 = .ok (.goto 53, 3) := by decide +kernel
theorem dX2_readItem_106 : decode cX2_readItem 106 = .ok (.aload_n 0, 1) := by decide +kernel
theorem dX2_readItem_107 : decode cX2_readItem 107 = .ok (.invokevirtual 63, 3) := by decide +kernel
theorem dX2_readItem_110 : decode cX2_readItem 110 = .ok (.goto 46, 3) := by decide +kernel
theorem dX2_readItem_113 : decode cX2_readItem 113 = .ok (.aload_n 0, 1) := by decide +kernel
theorem dX2_readItem_114 : decode cX2_readItem 114 = .ok (.invokevirtual 66, 3) := by decide +kernel
theorem dX2_readItem_117 : decode cX2_readItem 117 = .ok (.goto 39, 3) := by decide +kernel
theorem dX2_readItem_120 : decode cX2_readItem 120 = .ok (.aload_n 0, 1) := by decide +kernel
theorem dX2_readItem_121 : decode cX2_readItem 121 = .ok (.invokevirtual 69, 3) := by decide +kernel
theorem dX2_readItem_124 : decode cX2_readItem 124 = .ok (.goto 32, 3) := by decide +kernel
theorem dX2_readItem_127 : decode cX2_readItem 127 = .ok (.aload_n 0, 1) := by decide +kernel
theorem dX2_readItem_128 : decode cX2_readItem 128 = .ok (.invokevirtual 72, 3) := by decide +kernel
theorem dX2_readItem_131 : decode cX2_readItem 131 = .ok (.goto 25, 3) := by decide +kernel
theorem dX2_readItem_134 : decode cX2_readItem 134 = .ok (.aload_n 0, 1) := by decide +kernel
theorem dX2_readItem_135 : decode cX2_readItem 135 = .ok (.invokevirtual 75, 3) := by decide +kernel
theorem dX2_readItem_138 : decode cX2_readItem 138 = .ok (.goto 18, 3) := by decide +kernel
theorem dX2_readItem_141 : decode cX2_readItem 141 = .ok (.aload_n 0, 1) := by decide +kernel
theorem dX2_readItem_142 : decode cX2_readItem 142 = .ok (.invokevirtual 78, 3) := by decide +kernel
theorem dX2_readItem_145 : decode cX2_readItem 145 = .ok (.goto 11, 3) := by decide +kernel
theorem dX2_readItem_148 : decode cX2_readItem 148 = .ok (.aload_n 0, 1) := by decide +kernel
theorem dX2_readItem_149 : decode cX2_readItem 149 = .ok (.aload_n 0, 1) := by decide +kernel
theorem dX2_readItem_150 : decode cX2_readItem 150 = .ok (.getfield 40, 3) := by decide +kernel
theorem dX2_readItem_153 : decode cX2_readItem 153 = .ok (.invokevirtual 54, 3) := by decide +kernel
theorem dX2_readItem_156 : decode cX2_readItem 156 = .ok (.return_, 1) := by decide +kernel
theorem dX2_blame_0 : decode cX2_blame 0 = .ok (.aload_n 0, 1) := by decide +kernel
theorem dX2_blame_1 : decode cX2_blame 1 = .ok (.getfield 22, 3) := by decide +kernel
theorem dX2_blame_4 : decode cX2_blame 4 = .ok (.iconst (-1), 1) := by decide +kernel
theorem dX2_blame_5 : decode cX2_blame 5 = .ok (.if_icmp .ne 8, 3) := by decide +kernel
theorem dX2_blame_8 : decode cX2_blame 8 = .ok (.aload_n 0, 1) := by decide +kernel
theorem dX2_blame_9 : decode cX2_blame 9 = .ok (.iload_n 1, 1) := by decide +kernel
theorem dX2_blame_10 : decode cX2_blame 10 = .ok (.putfield 22, 3) := by decide +kernel
theorem dX2_blame_13 : decode cX2_blame 13 = .ok (.return_, 1) := by decide +kernel
theorem dX2_readWord_0 : decode cX2_readWord 0 = .ok (.iconst 0, 1) := by decide +kernel
theorem dX2_readWord_1 : decode cX2_readWord 1 = .ok (.istore_n 2, 1) := by decide +kernel
theorem dX2_readWord_2 : decode cX2_readWord 2 = .ok (.iload_n 2, 1) := by decide +kernel
theorem dX2_readWord_3 : decode cX2_readWord 3 = .ok (.aload_n 1, 1) := by decide +kernel
theorem dX2_readWord_4 : decode cX2_readWord 4 = .ok (.invokevirtual 81, 3) := by decide +kernel
theorem dX2_readWord_7 : decode cX2_readWord 7 = .ok (.if_icmp .ge 18, 3) := by decide +kernel
theorem dX2_readWord_10 : decode cX2_readWord 10 = .ok (.aload_n 0, 1) := by decide +kernel
theorem dX2_readWord_11 : decode cX2_readWord 11 = .ok (.aload_n 1, 1) := by decide +kernel
theorem dX2_readWord_12 : decode cX2_readWord 12 = .ok (.iload_n 2, 1) := by decide +kernel
theorem dX2_readWord_13 : decode cX2_readWord 13 = .ok (.invokevirtual 85, 3) := by decide +kernel
theorem dX2_readWord_16 : decode cX2_readWord 16 = .ok (.invokevirtual 46, 3) := by decide +kernel
theorem dX2_readWord_19 : decode cX2_readWord 19 = .ok (.iinc 2 1, 3) := by decide +kernel
theorem dX2_readWord_22 : decode cX2_readWord 22 = .ok (.goto (-20), 3) := by decide +kernel
theorem dX2_readWord_25 : decode cX2_readWord 25 = .ok (.return_, 1) := by decide +kernel
theorem dX2_readNumber_0 : decode cX2_readNumber 0 = .ok (.aload_n 0, 1) := by decide +kernel
theorem dX2_readNumber_1 : decode cX2_readNumber 1 = .ok (.bipush 32, 2) := by decide +kernel
theorem dX2_readNumber_3 : decode cX2_readNumber 3 = .ok (.invokevirtual 46, 3) := by decide +kernel
theorem dX2_readNumber_6 : decode cX2_readNumber 6 = .ok (.aload_n 0, 1) := by decide +kernel
theorem dX2_readNumber_7 : decode cX2_readNumber 7 = .ok (.getfield 22, 3) := by decide +kernel
theorem dX2_readNumber_10 : decode cX2_readNumber 10 = .ok (.iconst (-1), 1) := by decide +kernel
theorem dX2_readNumber_11 : decode cX2_readNumber 11 = .ok (.if_icmp .eq 5, 3) := by decide +kernel
theorem dX2_readNumber_14 : decode cX2_readNumber 14 = .ok (.iconst 0, 1) := by decide +kernel
theorem dX2_readNumber_15 : decode cX2_readNumber 15 = .ok (.ireturn, 1) := by decide +kernel
theorem dX2_readNumber_16 : decode cX2_readNumber 16 = .ok (.aload_n 0, 1) := by decide +kernel
theorem dX2_readNumber_17 : decode cX2_readNumber 17 = .ok (.aload_n 0, 1) := by decide +kernel
theorem dX2_readNumber_18 : decode cX2_readNumber 18 = .ok (.getfield 40, 3) := by decide +kernel
theorem dX2_readNumber_21 : decode cX2_readNumber 21 = .ok (.putfield 89, 3) := by decide +kernel
theorem dX2_readNumber_24 : decode cX2_readNumber 24 = .ok (.iconst 0, 1) := by decide +kernel
theorem dX2_readNumber_25 : decode cX2_readNumber 25 = .ok (.istore_n 3, 1) := by decide +kernel
theorem dX2_readNumber_26 : decode cX2_readNumber 26 = .ok (.iconst 0, 1) := by decide +kernel
theorem dX2_readNumber_27 : decode cX2_readNumber 27 = .ok (.istore 4, 2) := by decide +kernel
theorem dX2_readNumber_29 : decode cX2_readNumber 29 = .ok (.iload 4, 2) := by decide +kernel
theorem dX2_readNumber_31 : decode cX2_readNumber 31 = .ok (.iconst 4, 1) := by decide +kernel
theorem dX2_readNumber_32 : decode cX2_readNumber 32 = .ok (.if_icmp .ge 50, 3) := by decide +kernel
theorem dX2_readNumber_35 : decode cX2_readNumber 35 = .ok (.aload_n 0, 1) := by decide +kernel
theorem dX2_readNumber_36 : decode cX2_readNumber 36 = .ok (.invokevirtual 50, 3) := by decide +kernel
theorem dX2_readNumber_39 : decode cX2_readNumber 39 = .ok (.bipush 48, 2) := by decide +kernel
theorem dX2_readNumber_41 : decode cX2_readNumber 41 = .ok (.if_icmp .lt 41, 3) := by decide +kernel
theorem dX2_readNumber_44 : decode cX2_readNumber 44 = .ok (.aload_n 0, 1) := by decide +kernel
theorem dX2_readNumber_45 : decode cX2_readNumber 45 = .ok (.invokevirtual 50, 3) := by decide +kernel
theorem dX2_readNumber_48 : decode cX2_readNumber 48 = .ok (.bipush 57, 2) := by decide +kernel
theorem dX2_readNumber_50 : decode cX2_readNumber 50 = .ok (.if_icmp .gt 32, 3) := by decide +kernel
theorem dX2_readNumber_53 : decode cX2_readNumber 53 = .ok (.iload_n 3, 1) := by decide +kernel
theorem dX2_readNumber_54 : decode cX2_readNumber 54 = .ok (.bipush 10, 2) := by decide +kernel
theorem dX2_readNumber_56 : decode cX2_readNumber 56 = .ok (.imul, 1) := by decide +kernel
theorem dX2_readNumber_57 : decode cX2_readNumber 57 = .ok (.aload_n 0, 1) := by decide +kernel
theorem dX2_readNumber_58 : decode cX2_readNumber 58 = .ok (.invokevirtual 50, 3) := by decide +kernel
theorem dX2_readNumber_61 : decode cX2_readNumber 61 = .ok (.iadd, 1) := by decide +kernel
theorem dX2_readNumber_62 : decode cX2_readNumber 62 = .ok (.bipush 48, 2) := by decide +kernel
theorem dX2_readNumber_64 : decode cX2_readNumber 64 = .ok (.isub, 1) := by decide +kernel
theorem dX2_readNumber_65 : decode cX2_readNumber 65 = .ok (.istore_n 3, 1) := by decide +kernel
theorem dX2_readNumber_66 : decode cX2_readNumber 66 = .ok (.aload_n 0, 1) := by decide +kernel
theorem dX2_readNumber_67 : decode cX2_readNumber 67 = .ok (.dup, 1) := by decide +kernel
theorem dX2_readNumber_68 : decode cX2_readNumber 68 = .ok (.getfield 40, 3) := by decide +kernel
theorem dX2_readNumber_71 : decode cX2_readNumber 71 = .ok (.iconst 1, 1) := by decide +kernel
theorem dX2_readNumber_72 : decode cX2_readNumber 72 = .ok (.iadd, 1) := by decide +kernel
theorem dX2_readNumber_73 : decode cX2_readNumber 73 = .ok (.putfield 40, 3) := by decide +kernel
theorem dX2_readNumber_76 : decode cX2_readNumber 76 = .ok (.iinc 4 1, 3) := by decide +kernel
theorem dX2_readNumber_79 : decode cX2_readNumber 79 = .ok (.goto (-50), 3) := by decide +kernel
theorem dX2_readNumber_82 : decode cX2_readNumber 82 = .ok (.aload_n 0, 1) := by decide +kernel
theorem dX2_readNumber_83 : decode cX2_readNumber 83 = .ok (.getfield 40, 3) := by decide +kernel
theorem dX2_readNumber_86 : decode cX2_readNumber 86 = .ok (.aload_n 0, 1) := by decide +kernel
theorem dX2_readNumber_87 : decode cX2_readNumber 87 = .ok (.getfield 89, 3) := by decide +kernel
theorem dX2_readNumber_90 : decode cX2_readNumber 90 = .ok (.if_icmp .eq 13, 3) := by decide +kernel
theorem dX2_readNumber_93 : decode cX2_readNumber 93 = .ok (.iload_n 3, 1) := by decide +kernel
theorem dX2_readNumber_94 : decode cX2_readNumber 94 = .ok (.iload_n 1, 1) := by decide +kernel
theorem dX2_readNumber_95 : decode cX2_readNumber 95 = .ok (.if_icmp .lt 8, 3) := by decide +kernel
theorem dX2_readNumber_98 : decode cX2_readNumber 98 = .ok (.iload_n 3, 1) := by decide +kernel
theorem dX2_readNumber_99 : decode cX2_readNumber 99 = .ok (.iload_n 2, 1) := by decide +kernel
theorem dX2_readNumber_100 : decode cX2_readNumber 100 = .ok (.if_icmp .le 13, 3) := by decide +kernel
theorem dX2_readNumber_103 : decode cX2_readNumber 103 = .ok (.aload_n 0, 1) := by decide +kernel
theorem dX2_readNumber_104 : decode cX2_readNumber 104 = .ok (.aload_n 0, 1) := by decide +kernel
theorem dX2_readNumber_105 : decode cX2_readNumber 105 = .ok (.getfield 89, 3) := by decide +kernel
theorem dX2_readNumber_108 : decode cX2_readNumber 108 = .ok (.invokevirtual 54, 3) := by decide +kernel
theorem dX2_readNumber_111 : decode cX2_readNumber 111 = .ok (.iconst 0, 1) := by decide +kernel
theorem dX2_readNumber_112 : decode cX2_readNumber 112 = .ok (.ireturn, 1) := by decide +kernel
theorem dX2_readNumber_113 : decode cX2_readNumber 113 = .ok (.iload_n 3, 1) := by decide +kernel
theorem dX2_readNumber_114 : decode cX2_readNumber 114 = .ok (.ireturn, 1) := by decide +kernel
theorem dX2_wantRoom_0 : decode cX2_wantRoom 0 = .ok (.iload_n 1, 1) := by decide +kernel
theorem dX2_wantRoom_1 : decode cX2_wantRoom 1 = .ok (.ifCond .ne 8, 3) := by decide +kernel
theorem dX2_wantRoom_4 : decode cX2_wantRoom 4 = .ok (.aload_n 0, 1) := by decide +kernel
theorem dX2_wantRoom_5 : decode cX2_wantRoom 5 = .ok (.iload_n 2, 1) := by decide +kernel
theorem dX2_wantRoom_6 : decode cX2_wantRoom 6 = .ok (.invokevirtual 54, 3) := by decide +kernel
theorem dX2_wantRoom_9 : decode cX2_wantRoom 9 = .ok (.return_, 1) := by decide +kernel
theorem dX2_readShop_0 : decode cX2_readShop 0 = .ok (.aload_n 0, 1) := by decide +kernel
theorem dX2_readShop_1 : decode cX2_readShop 1 = .ok (.getfield 40, 3) := by decide +kernel
theorem dX2_readShop_4 : decode cX2_readShop 4 = .ok (.istore_n 1, 1) := by decide +kernel
theorem dX2_readShop_5 : decode cX2_readShop 5 = .ok (.aload_n 0, 1) := by decide +kernel
theorem dX2_readShop_6 : decode cX2_readShop 6 = .ok (.ldc 92, 2) := by decide +kernel
theorem dX2_readShop_8 : decode cX2_readShop 8 = .ok (.invokevirtual 94, 3) := by decide +kernel
theorem dX2_readShop_11 : decode cX2_readShop 11 = .ok (.aload_n 0, 1) := by decide +kernel
theorem dX2_readShop_12 : decode cX2_readShop 12 = .ok (.aload_n 0, 1) := by decide +kernel
theorem dX2_readShop_13 : decode cX2_readShop 13 = .ok (.getfield 12, 3) := by decide +kernel
theorem dX2_readShop_16 : decode cX2_readShop 16 = .ok (.getfield 98, 3) := by decide +kernel
theorem dX2_readShop_19 : decode cX2_readShop 19 = .ok (.bipush 6, 2) := by decide +kernel
theorem dX2_readShop_21 : decode cX2_readShop 21 = .ok (.if_icmp .ge 7, 3) := by decide +kernel
theorem dX2_readShop_24 : decode cX2_readShop 24 = .ok (.iconst 1, 1) := by decide +kernel
theorem dX2_readShop_25 : decode cX2_readShop 25 = .ok (.goto 4, 3) := by decide +kernel
theorem dX2_readShop_28 : decode cX2_readShop 28 = .ok (.iconst 0, 1) := by decide +kernel
theorem dX2_readShop_29 : decode cX2_readShop 29 = .ok (.iload_n 1, 1) := by decide +kernel
theorem dX2_readShop_30 : decode cX2_readShop 30 = .ok (.invokevirtual 101, 3) := by decide +kernel
theorem dX2_readShop_33 : decode cX2_readShop 33 = .ok (.aload_n 0, 1) := by decide +kernel
theorem dX2_readShop_34 : decode cX2_readShop 34 = .ok (.iconst 0, 1) := by decide +kernel
theorem dX2_readShop_35 : decode cX2_readShop 35 = .ok (.bipush 6, 2) := by decide +kernel
theorem dX2_readShop_37 : decode cX2_readShop 37 = .ok (.invokevirtual 105, 3) := by decide +kernel
theorem dX2_readShop_40 : decode cX2_readShop 40 = .ok (.istore_n 2, 1) := by decide +kernel
theorem dX2_readShop_41 : decode cX2_readShop 41 = .ok (.aload_n 0, 1) := by decide +kernel
theorem dX2_readShop_42 : decode cX2_readShop 42 = .ok (.iconst 0, 1) := by decide +kernel
theorem dX2_readShop_43 : decode cX2_readShop 43 = .ok (.bipush 9, 2) := by decide +kernel
theorem dX2_readShop_45 : decode cX2_readShop 45 = .ok (.invokevirtual 105, 3) := by decide +kernel
theorem dX2_readShop_48 : decode cX2_readShop 48 = .ok (.istore_n 3, 1) := by decide +kernel
theorem dX2_readShop_49 : decode cX2_readShop 49 = .ok (.aload_n 0, 1) := by decide +kernel
theorem dX2_readShop_50 : decode cX2_readShop 50 = .ok (.iconst 1, 1) := by decide +kernel
theorem dX2_readShop_51 : decode cX2_readShop 51 = .ok (.sipush 999, 3) := by decide +kernel
theorem dX2_readShop_54 : decode cX2_readShop 54 = .ok (.invokevirtual 105, 3) := by decide +kernel
theorem dX2_readShop_57 : decode cX2_readShop 57 = .ok (.istore 4, 2) := by decide +kernel
theorem dX2_readShop_59 : decode cX2_readShop 59 = .ok (.aload_n 0, 1) := by decide +kernel
theorem dX2_readShop_60 : decode cX2_readShop 60 = .ok (.getfield 22, 3) := by decide +kernel
theorem dX2_readShop_63 : decode cX2_readShop 63 = .ok (.iconst (-1), 1) := by decide +kernel
theorem dX2_readShop_64 : decode cX2_readShop 64 = .ok (.if_icmp .ne 15, 3) := by decide +kernel
theorem dX2_readShop_67 : decode cX2_readShop 67 = .ok (.aload_n 0, 1) := by decide +kernel
theorem dX2_readShop_68 : decode cX2_readShop 68 = .ok (.getfield 12, 3) := by decide +kernel
theorem dX2_readShop_71 : decode cX2_readShop 71 = .ok (.iload_n 2, 1) := by decide +kernel
theorem dX2_readShop_72 : decode cX2_readShop 72 = .ok (.iload_n 3, 1) := by decide +kernel
theorem dX2_readShop_73 : decode cX2_readShop 73 = .ok (.iload 4, 2) := by decide +kernel
theorem dX2_readShop_75 : decode cX2_readShop 75 = .ok (.invokevirtual 109, 3) := by decide +kernel
theorem dX2_readShop_78 : decode cX2_readShop 78 = .ok (.pop, 1) := by decide +kernel
theorem dX2_readShop_79 : decode cX2_readShop 79 = .ok (.return_, 1) := by decide +kernel
theorem dX2_readChild_0 : decode cX2_readChild 0 = .ok (.aload_n 0, 1) := by decide +kernel
theorem dX2_readChild_1 : decode cX2_readChild 1 = .ok (.getfield 40, 3) := by decide +kernel
theorem dX2_readChild_4 : decode cX2_readChild 4 = .ok (.istore_n 1, 1) := by decide +kernel
theorem dX2_readChild_5 : decode cX2_readChild 5 = .ok (.aload_n 0, 1) := by decide +kernel
theorem dX2_readChild_6 : decode cX2_readChild 6 = .ok (.ldc 113, 2) := by decide +kernel
theorem dX2_readChild_8 : decode cX2_readChild 8 = .ok (.invokevirtual 94, 3) := by decide +kernel
theorem dX2_readChild_11 : decode cX2_readChild 11 = .ok (.aload_n 0, 1) := by decide +kernel
theorem dX2_readChild_12 : decode cX2_readChild 12 = .ok (.aload_n 0, 1) := by decide +kernel
theorem dX2_readChild_13 : decode cX2_readChild 13 = .ok (.getfield 12, 3) := by decide +kernel
theorem dX2_readChild_16 : decode cX2_readChild 16 = .ok (.getfield 115, 3) := by decide +kernel
theorem dX2_readChild_19 : decode cX2_readChild 19 = .ok (.bipush 6, 2) := by decide +kernel
theorem dX2_readChild_21 : decode cX2_readChild 21 = .ok (.if_icmp .ge 7, 3) := by decide +kernel
theorem dX2_readChild_24 : decode cX2_readChild 24 = .ok (.iconst 1, 1) := by decide +kernel
theorem dX2_readChild_25 : decode cX2_readChild 25 = .ok (.goto 4, 3) := by decide +kernel
theorem dX2_readChild_28 : decode cX2_readChild 28 = .ok (.iconst 0, 1) := by decide +kernel
theorem dX2_readChild_29 : decode cX2_readChild 29 = .ok (.iload_n 1, 1) := by decide +kernel
theorem dX2_readChild_30 : decode cX2_readChild 30 = .ok (.invokevirtual 101, 3) := by decide +kernel
theorem dX2_readChild_33 : decode cX2_readChild 33 = .ok (.aload_n 0, 1) := by decide +kernel
theorem dX2_readChild_34 : decode cX2_readChild 34 = .ok (.iconst 1, 1) := by decide +kernel
theorem dX2_readChild_35 : decode cX2_readChild 35 = .ok (.bipush 99, 2) := by decide +kernel
theorem dX2_readChild_37 : decode cX2_readChild 37 = .ok (.invokevirtual 105, 3) := by decide +kernel
theorem dX2_readChild_40 : decode cX2_readChild 40 = .ok (.istore_n 2, 1) := by decide +kernel
theorem dX2_readChild_41 : decode cX2_readChild 41 = .ok (.aload_n 0, 1) := by decide +kernel
theorem dX2_readChild_42 : decode cX2_readChild 42 = .ok (.iconst 0, 1) := by decide +kernel
theorem dX2_readChild_43 : decode cX2_readChild 43 = .ok (.sipush 9999, 3) := by decide +kernel
theorem dX2_readChild_46 : decode cX2_readChild 46 = .ok (.invokevirtual 105, 3) := by decide +kernel
theorem dX2_readChild_49 : decode cX2_readChild 49 = .ok (.istore_n 3, 1) := by decide +kernel
theorem dX2_readChild_50 : decode cX2_readChild 50 = .ok (.aload_n 0, 1) := by decide +kernel
theorem dX2_readChild_51 : decode cX2_readChild 51 = .ok (.getfield 22, 3) := by decide +kernel
theorem dX2_readChild_54 : decode cX2_readChild 54 = .ok (.iconst (-1), 1) := by decide +kernel
theorem dX2_readChild_55 : decode cX2_readChild 55 = .ok (.if_icmp .ne 13, 3) := by decide +kernel
theorem dX2_readChild_58 : decode cX2_readChild 58 = .ok (.aload_n 0, 1) := by decide +kernel
theorem dX2_readChild_59 : decode cX2_readChild 59 = .ok (.getfield 12, 3) := by decide +kernel
theorem dX2_readChild_62 : decode cX2_readChild 62 = .ok (.iload_n 2, 1) := by decide +kernel
theorem dX2_readChild_63 : decode cX2_readChild 63 = .ok (.iload_n 3, 1) := by decide +kernel
theorem dX2_readChild_64 : decode cX2_readChild 64 = .ok (.invokevirtual 118, 3) := by decide +kernel
theorem dX2_readChild_67 : decode cX2_readChild 67 = .ok (.pop, 1) := by decide +kernel
theorem dX2_readChild_68 : decode cX2_readChild 68 = .ok (.return_, 1) := by decide +kernel
theorem dX2_readFeathers_0 : decode cX2_readFeathers 0 = .ok (.aload_n 0, 1) := by decide +kernel
theorem dX2_readFeathers_1 : decode cX2_readFeathers 1 = .ok (.ldc 121, 2) := by decide +kernel
theorem dX2_readFeathers_3 : decode cX2_readFeathers 3 = .ok (.invokevirtual 94, 3) := by decide +kernel
theorem dX2_readFeathers_6 : decode cX2_readFeathers 6 = .ok (.aload_n 0, 1) := by decide +kernel
theorem dX2_readFeathers_7 : decode cX2_readFeathers 7 = .ok (.iconst 0, 1) := by decide +kernel
theorem dX2_readFeathers_8 : decode cX2_readFeathers 8 = .ok (.aload_n 0, 1) := by decide +kernel
theorem dX2_readFeathers_9 : decode cX2_readFeathers 9 = .ok (.getfield 12, 3) := by decide +kernel
theorem dX2_readFeathers_12 : decode cX2_readFeathers 12 = .ok (.getfield 115, 3) := by decide +kernel
theorem dX2_readFeathers_15 : decode cX2_readFeathers 15 = .ok (.iconst 1, 1) := by decide +kernel
theorem dX2_readFeathers_16 : decode cX2_readFeathers 16 = .ok (.isub, 1) := by decide +kernel
theorem dX2_readFeathers_17 : decode cX2_readFeathers 17 = .ok (.invokevirtual 105, 3) := by decide +kernel
theorem dX2_readFeathers_20 : decode cX2_readFeathers 20 = .ok (.istore_n 1, 1) := by decide +kernel
theorem dX2_readFeathers_21 : decode cX2_readFeathers 21 = .ok (.aload_n 0, 1) := by decide +kernel
theorem dX2_readFeathers_22 : decode cX2_readFeathers 22 = .ok (.iconst 0, 1) := by decide +kernel
theorem dX2_readFeathers_23 : decode cX2_readFeathers 23 = .ok (.bipush 99, 2) := by decide +kernel
theorem dX2_readFeathers_25 : decode cX2_readFeathers 25 = .ok (.invokevirtual 105, 3) := by decide +kernel
theorem dX2_readFeathers_28 : decode cX2_readFeathers 28 = .ok (.istore_n 2, 1) := by decide +kernel
theorem dX2_readFeathers_29 : decode cX2_readFeathers 29 = .ok (.aload_n 0, 1) := by decide +kernel
theorem dX2_readFeathers_30 : decode cX2_readFeathers 30 = .ok (.getfield 22, 3) := by decide +kernel
theorem dX2_readFeathers_33 : decode cX2_readFeathers 33 = .ok (.iconst (-1), 1) := by decide +kernel
theorem dX2_readFeathers_34 : decode cX2_readFeathers 34 = .ok (.if_icmp .ne 16, 3) := by decide +kernel
theorem dX2_readFeathers_37 : decode cX2_readFeathers 37 = .ok (.aload_n 0, 1) := by decide +kernel
theorem dX2_readFeathers_38 : decode cX2_readFeathers 38 = .ok (.getfield 12, 3) := by decide +kernel
theorem dX2_readFeathers_41 : decode cX2_readFeathers 41 = .ok (.getfield 123, 3) := by decide +kernel
theorem dX2_readFeathers_44 : decode cX2_readFeathers 44 = .ok (.iload_n 1, 1) := by decide +kernel
theorem dX2_readFeathers_45 : decode cX2_readFeathers 45 = .ok (.aaload, 1) := by decide +kernel
theorem dX2_readFeathers_46 : decode cX2_readFeathers 46 = .ok (.iload_n 2, 1) := by decide +kernel
theorem dX2_readFeathers_47 : decode cX2_readFeathers 47 = .ok (.putfield 127, 3) := by decide +kernel
theorem dX2_readFeathers_50 : decode cX2_readFeathers 50 = .ok (.return_, 1) := by decide +kernel
theorem dX2_readKeeps_0 : decode cX2_readKeeps 0 = .ok (.aload_n 0, 1) := by decide +kernel
theorem dX2_readKeeps_1 : decode cX2_readKeeps 1 = .ok (.ldc 131, 2) := by decide +kernel
theorem dX2_readKeeps_3 : decode cX2_readKeeps 3 = .ok (.invokevirtual 94, 3) := by decide +kernel
theorem dX2_readKeeps_6 : decode cX2_readKeeps 6 = .ok (.aload_n 0, 1) := by decide +kernel
theorem dX2_readKeeps_7 : decode cX2_readKeeps 7 = .ok (.iconst 0, 1) := by decide +kernel
theorem dX2_readKeeps_8 : decode cX2_readKeeps 8 = .ok (.aload_n 0, 1) := by decide +kernel
theorem dX2_readKeeps_9 : decode cX2_readKeeps 9 = .ok (.getfield 12, 3) := by decide +kernel
theorem dX2_readKeeps_12 : decode cX2_readKeeps 12 = .ok (.getfield 115, 3) := by decide +kernel
theorem dX2_readKeeps_15 : decode cX2_readKeeps 15 = .ok (.iconst 1, 1) := by decide +kernel
theorem dX2_readKeeps_16 : decode cX2_readKeeps 16 = .ok (.isub, 1) := by decide +kernel
theorem dX2_readKeeps_17 : decode cX2_readKeeps 17 = .ok (.invokevirtual 105, 3) := by decide +kernel
theorem dX2_readKeeps_20 : decode cX2_readKeeps 20 = .ok (.istore_n 1, 1) := by decide +kernel
theorem dX2_readKeeps_21 : decode cX2_readKeeps 21 = .ok (.aload_n 0, 1) := by decide +kernel
theorem dX2_readKeeps_22 : decode cX2_readKeeps 22 = .ok (.iconst 0, 1) := by decide +kernel
theorem dX2_readKeeps_23 : decode cX2_readKeeps 23 = .ok (.aload_n 0, 1) := by decide +kernel
theorem dX2_readKeeps_24 : decode cX2_readKeeps 24 = .ok (.getfield 12, 3) := by decide +kernel
theorem dX2_readKeeps_27 : decode cX2_readKeeps 27 = .ok (.getfield 98, 3) := by decide +kernel
theorem dX2_readKeeps_30 : decode cX2_readKeeps 30 = .ok (.iconst 1, 1) := by decide +kernel
theorem dX2_readKeeps_31 : decode cX2_readKeeps 31 = .ok (.isub, 1) := by decide +kernel
theorem dX2_readKeeps_32 : decode cX2_readKeeps 32 = .ok (.invokevirtual 105, 3) := by decide +kernel
theorem dX2_readKeeps_35 : decode cX2_readKeeps 35 = .ok (.istore_n 2, 1) := by decide +kernel
theorem dX2_readKeeps_36 : decode cX2_readKeeps 36 = .ok (.aload_n 0, 1) := by decide +kernel
theorem dX2_readKeeps_37 : decode cX2_readKeeps 37 = .ok (.getfield 22, 3) := by decide +kernel
theorem dX2_readKeeps_40 : decode cX2_readKeeps 40 = .ok (.iconst (-1), 1) := by decide +kernel
theorem dX2_readKeeps_41 : decode cX2_readKeeps 41 = .ok (.if_icmp .ne 16, 3) := by decide +kernel
theorem dX2_readKeeps_44 : decode cX2_readKeeps 44 = .ok (.aload_n 0, 1) := by decide +kernel
theorem dX2_readKeeps_45 : decode cX2_readKeeps 45 = .ok (.getfield 12, 3) := by decide +kernel
theorem dX2_readKeeps_48 : decode cX2_readKeeps 48 = .ok (.getfield 123, 3) := by decide +kernel
theorem dX2_readKeeps_51 : decode cX2_readKeeps 51 = .ok (.iload_n 1, 1) := by decide +kernel
theorem dX2_readKeeps_52 : decode cX2_readKeeps 52 = .ok (.aaload, 1) := by decide +kernel
theorem dX2_readKeeps_53 : decode cX2_readKeeps 53 = .ok (.iload_n 2, 1) := by decide +kernel
theorem dX2_readKeeps_54 : decode cX2_readKeeps 54 = .ok (.putfield 133, 3) := by decide +kernel
theorem dX2_readKeeps_57 : decode cX2_readKeeps 57 = .ok (.return_, 1) := by decide +kernel
theorem dX2_readInk_0 : decode cX2_readInk 0 = .ok (.aload_n 0, 1) := by decide +kernel
theorem dX2_readInk_1 : decode cX2_readInk 1 = .ok (.ldc 136, 2) := by decide +kernel
theorem dX2_readInk_3 : decode cX2_readInk 3 = .ok (.invokevirtual 94, 3) := by decide +kernel
theorem dX2_readInk_6 : decode cX2_readInk 6 = .ok (.aload_n 0, 1) := by decide +kernel
theorem dX2_readInk_7 : decode cX2_readInk 7 = .ok (.iconst 0, 1) := by decide +kernel
theorem dX2_readInk_8 : decode cX2_readInk 8 = .ok (.bipush 99, 2) := by decide +kernel
theorem dX2_readInk_10 : decode cX2_readInk 10 = .ok (.invokevirtual 105, 3) := by decide +kernel
theorem dX2_readInk_13 : decode cX2_readInk 13 = .ok (.istore_n 1, 1) := by decide +kernel
theorem dX2_readInk_14 : decode cX2_readInk 14 = .ok (.aload_n 0, 1) := by decide +kernel
theorem dX2_readInk_15 : decode cX2_readInk 15 = .ok (.getfield 22, 3) := by decide +kernel
theorem dX2_readInk_18 : decode cX2_readInk 18 = .ok (.iconst (-1), 1) := by decide +kernel
theorem dX2_readInk_19 : decode cX2_readInk 19 = .ok (.if_icmp .ne 11, 3) := by decide +kernel
theorem dX2_readInk_22 : decode cX2_readInk 22 = .ok (.aload_n 0, 1) := by decide +kernel
theorem dX2_readInk_23 : decode cX2_readInk 23 = .ok (.getfield 12, 3) := by decide +kernel
theorem dX2_readInk_26 : decode cX2_readInk 26 = .ok (.iload_n 1, 1) := by decide +kernel
theorem dX2_readInk_27 : decode cX2_readInk 27 = .ok (.putfield 138, 3) := by decide +kernel
theorem dX2_readInk_30 : decode cX2_readInk 30 = .ok (.return_, 1) := by decide +kernel
theorem dX2_readTree_0 : decode cX2_readTree 0 = .ok (.aload_n 0, 1) := by decide +kernel
theorem dX2_readTree_1 : decode cX2_readTree 1 = .ok (.ldc 140, 2) := by decide +kernel
theorem dX2_readTree_3 : decode cX2_readTree 3 = .ok (.invokevirtual 94, 3) := by decide +kernel
theorem dX2_readTree_6 : decode cX2_readTree 6 = .ok (.aload_n 0, 1) := by decide +kernel
theorem dX2_readTree_7 : decode cX2_readTree 7 = .ok (.iconst 0, 1) := by decide +kernel
theorem dX2_readTree_8 : decode cX2_readTree 8 = .ok (.sipush 9999, 3) := by decide +kernel
theorem dX2_readTree_11 : decode cX2_readTree 11 = .ok (.invokevirtual 105, 3) := by decide +kernel
theorem dX2_readTree_14 : decode cX2_readTree 14 = .ok (.istore_n 1, 1) := by decide +kernel
theorem dX2_readTree_15 : decode cX2_readTree 15 = .ok (.aload_n 0, 1) := by decide +kernel
theorem dX2_readTree_16 : decode cX2_readTree 16 = .ok (.getfield 22, 3) := by decide +kernel
theorem dX2_readTree_19 : decode cX2_readTree 19 = .ok (.iconst (-1), 1) := by decide +kernel
theorem dX2_readTree_20 : decode cX2_readTree 20 = .ok (.if_icmp .ne 11, 3) := by decide +kernel
theorem dX2_readTree_23 : decode cX2_readTree 23 = .ok (.aload_n 0, 1) := by decide +kernel
theorem dX2_readTree_24 : decode cX2_readTree 24 = .ok (.getfield 12, 3) := by decide +kernel
theorem dX2_readTree_27 : decode cX2_readTree 27 = .ok (.iload_n 1, 1) := by decide +kernel
theorem dX2_readTree_28 : decode cX2_readTree 28 = .ok (.putfield 142, 3) := by decide +kernel
theorem dX2_readTree_31 : decode cX2_readTree 31 = .ok (.return_, 1) := by decide +kernel
theorem dX2_readDeed_0 : decode cX2_readDeed 0 = .ok (.aload_n 0, 1) := by decide +kernel
theorem dX2_readDeed_1 : decode cX2_readDeed 1 = .ok (.ldc 144, 2) := by decide +kernel
theorem dX2_readDeed_3 : decode cX2_readDeed 3 = .ok (.invokevirtual 94, 3) := by decide +kernel
theorem dX2_readDeed_6 : decode cX2_readDeed 6 = .ok (.aload_n 0, 1) := by decide +kernel
theorem dX2_readDeed_7 : decode cX2_readDeed 7 = .ok (.iconst 0, 1) := by decide +kernel
theorem dX2_readDeed_8 : decode cX2_readDeed 8 = .ok (.aload_n 0, 1) := by decide +kernel
theorem dX2_readDeed_9 : decode cX2_readDeed 9 = .ok (.getfield 12, 3) := by decide +kernel
theorem dX2_readDeed_12 : decode cX2_readDeed 12 = .ok (.getfield 115, 3) := by decide +kernel
theorem dX2_readDeed_15 : decode cX2_readDeed 15 = .ok (.iconst 1, 1) := by decide +kernel
theorem dX2_readDeed_16 : decode cX2_readDeed 16 = .ok (.isub, 1) := by decide +kernel
theorem dX2_readDeed_17 : decode cX2_readDeed 17 = .ok (.invokevirtual 105, 3) := by decide +kernel
theorem dX2_readDeed_20 : decode cX2_readDeed 20 = .ok (.istore_n 1, 1) := by decide +kernel
theorem dX2_readDeed_21 : decode cX2_readDeed 21 = .ok (.aload_n 0, 1) := by decide +kernel
theorem dX2_readDeed_22 : decode cX2_readDeed 22 = .ok (.iconst 0, 1) := by decide +kernel
theorem dX2_readDeed_23 : decode cX2_readDeed 23 = .ok (.sipush 9999, 3) := by decide +kernel
theorem dX2_readDeed_26 : decode cX2_readDeed 26 = .ok (.invokevirtual 105, 3) := by decide +kernel
theorem dX2_readDeed_29 : decode cX2_readDeed 29 = .ok (.istore_n 2, 1) := by decide +kernel
theorem dX2_readDeed_30 : decode cX2_readDeed 30 = .ok (.aload_n 0, 1) := by decide +kernel
theorem dX2_readDeed_31 : decode cX2_readDeed 31 = .ok (.getfield 22, 3) := by decide +kernel
theorem dX2_readDeed_34 : decode cX2_readDeed 34 = .ok (.iconst (-1), 1) := by decide +kernel
theorem dX2_readDeed_35 : decode cX2_readDeed 35 = .ok (.if_icmp .eq 4, 3) := by decide +kernel
theorem dX2_readDeed_38 : decode cX2_readDeed 38 = .ok (.return_, 1) := by decide +kernel
theorem dX2_readDeed_39 : decode cX2_readDeed 39 = .ok (.aload_n 0, 1) := by decide +kernel
theorem dX2_readDeed_40 : decode cX2_readDeed 40 = .ok (.getfield 12, 3) := by decide +kernel
theorem dX2_readDeed_43 : decode cX2_readDeed 43 = .ok (.iload_n 1, 1) := by decide +kernel
theorem dX2_readDeed_44 : decode cX2_readDeed 44 = .ok (.iload_n 2, 1) := by decide +kernel
theorem dX2_readDeed_45 : decode cX2_readDeed 45 = .ok (.invokevirtual 146, 3) := by decide +kernel
theorem dX2_readDeed_48 : decode cX2_readDeed 48 = .ok (.ifCond .eq 15, 3) := by decide +kernel
theorem dX2_readDeed_51 : decode cX2_readDeed 51 = .ok (.aload_n 0, 1) := by decide +kernel
theorem dX2_readDeed_52 : decode cX2_readDeed 52 = .ok (.getfield 12, 3) := by decide +kernel
theorem dX2_readDeed_55 : decode cX2_readDeed 55 = .ok (.iload_n 1, 1) := by decide +kernel
theorem dX2_readDeed_56 : decode cX2_readDeed 56 = .ok (.iload_n 2, 1) := by decide +kernel
theorem dX2_readDeed_57 : decode cX2_readDeed 57 = .ok (.invokevirtual 150, 3) := by decide +kernel
theorem dX2_readDeed_60 : decode cX2_readDeed 60 = .ok (.goto 11, 3) := by decide +kernel
theorem dX2_readDeed_63 : decode cX2_readDeed 63 = .ok (.aload_n 0, 1) := by decide +kernel
theorem dX2_readDeed_64 : decode cX2_readDeed 64 = .ok (.aload_n 0, 1) := by decide +kernel
theorem dX2_readDeed_65 : decode cX2_readDeed 65 = .ok (.getfield 89, 3) := by decide +kernel
theorem dX2_readDeed_68 : decode cX2_readDeed 68 = .ok (.invokevirtual 54, 3) := by decide +kernel
theorem dX2_readDeed_71 : decode cX2_readDeed 71 = .ok (.return_, 1) := by decide +kernel
theorem dX2_readNight_0 : decode cX2_readNight 0 = .ok (.aload_n 0, 1) := by decide +kernel
theorem dX2_readNight_1 : decode cX2_readNight 1 = .ok (.ldc 154, 2) := by decide +kernel
theorem dX2_readNight_3 : decode cX2_readNight 3 = .ok (.invokevirtual 94, 3) := by decide +kernel
theorem dX2_readNight_6 : decode cX2_readNight 6 = .ok (.aload_n 0, 1) := by decide +kernel
theorem dX2_readNight_7 : decode cX2_readNight 7 = .ok (.getfield 22, 3) := by decide +kernel
theorem dX2_readNight_10 : decode cX2_readNight 10 = .ok (.iconst (-1), 1) := by decide +kernel
theorem dX2_readNight_11 : decode cX2_readNight 11 = .ok (.if_icmp .ne 11, 3) := by decide +kernel
theorem dX2_readNight_14 : decode cX2_readNight 14 = .ok (.aload_n 0, 1) := by decide +kernel
theorem dX2_readNight_15 : decode cX2_readNight 15 = .ok (.getfield 12, 3) := by decide +kernel
theorem dX2_readNight_18 : decode cX2_readNight 18 = .ok (.invokevirtual 156, 3) := by decide +kernel
theorem dX2_readNight_21 : decode cX2_readNight 21 = .ok (.pop, 1) := by decide +kernel
theorem dX2_readNight_22 : decode cX2_readNight 22 = .ok (.return_, 1) := by decide +kernel
theorem dX3_init_0 : decode cX3_init 0 = .ok (.aload_n 0, 1) := by decide +kernel
theorem dX3_init_1 : decode cX3_init 1 = .ok (.invokespecial 3, 3) := by decide +kernel
theorem dX3_init_4 : decode cX3_init 4 = .ok (.aload_n 0, 1) := by decide +kernel
theorem dX3_init_5 : decode cX3_init 5 = .ok (.sipush 160, 3) := by decide +kernel
theorem dX3_init_8 : decode cX3_init 8 = .ok (.newarray .long, 2) := by decide +kernel
theorem dX3_init_10 : decode cX3_init 10 = .ok (.putfield 9, 3) := by decide +kernel
theorem dX3_init_13 : decode cX3_init 13 = .ok (.aload_n 0, 1) := by decide +kernel
theorem dX3_init_14 : decode cX3_init 14 = .ok (.iconst (-1), 1) := by decide +kernel
theorem dX3_init_15 : decode cX3_init 15 = .ok (.putfield 15, 3) := by decide +kernel
theorem dX3_init_18 : decode cX3_init 18 = .ok (.return_, 1) := by decide +kernel
theorem dX3_hasRow_0 : decode cX3_hasRow 0 = .ok (.aload_n 0, 1) := by decide +kernel
theorem dX3_hasRow_1 : decode cX3_hasRow 1 = .ok (.getfield 15, 3) := by decide +kernel
theorem dX3_hasRow_4 : decode cX3_hasRow 4 = .ok (.bipush 100, 2) := by decide +kernel
theorem dX3_hasRow_6 : decode cX3_hasRow 6 = .ok (.if_icmp .lt 7, 3) := by decide +kernel
theorem dX3_hasRow_9 : decode cX3_hasRow 9 = .ok (.iconst 1, 1) := by decide +kernel
theorem dX3_hasRow_10 : decode cX3_hasRow 10 = .ok (.goto 4, 3) := by decide +kernel
theorem dX3_hasRow_13 : decode cX3_hasRow 13 = .ok (.iconst 0, 1) := by decide +kernel
theorem dX3_hasRow_14 : decode cX3_hasRow 14 = .ok (.ireturn, 1) := by decide +kernel
theorem dX3_hasShop_0 : decode cX3_hasShop 0 = .ok (.aload_n 0, 1) := by decide +kernel
theorem dX3_hasShop_1 : decode cX3_hasShop 1 = .ok (.getfield 15, 3) := by decide +kernel
theorem dX3_hasShop_4 : decode cX3_hasShop 4 = .ok (.ifCond .lt 16, 3) := by decide +kernel
theorem dX3_hasShop_7 : decode cX3_hasShop 7 = .ok (.aload_n 0, 1) := by decide +kernel
theorem dX3_hasShop_8 : decode cX3_hasShop 8 = .ok (.getfield 15, 3) := by decide +kernel
theorem dX3_hasShop_11 : decode cX3_hasShop 11 = .ok (.bipush 100, 2) := by decide +kernel
theorem dX3_hasShop_13 : decode cX3_hasShop 13 = .ok (.if_icmp .ge 7, 3) := by decide +kernel
theorem dX3_hasShop_16 : decode cX3_hasShop 16 = .ok (.iconst 1, 1) := by decide +kernel
theorem dX3_hasShop_17 : decode cX3_hasShop 17 = .ok (.goto 4, 3) := by decide +kernel
theorem dX3_hasShop_20 : decode cX3_hasShop 20 = .ok (.iconst 0, 1) := by decide +kernel
theorem dX3_hasShop_21 : decode cX3_hasShop 21 = .ok (.ireturn, 1) := by decide +kernel
theorem dX3_hold_0 : decode cX3_hold 0 = .ok (.aload_n 0, 1) := by decide +kernel
theorem dX3_hold_1 : decode cX3_hold 1 = .ok (.iload_n 1, 1) := by decide +kernel
theorem dX3_hold_2 : decode cX3_hold 2 = .ok (.putfield 15, 3) := by decide +kernel
theorem dX3_hold_5 : decode cX3_hold 5 = .ok (.aload_n 0, 1) := by decide +kernel
theorem dX3_hold_6 : decode cX3_hold 6 = .ok (.iconst 0, 1) := by decide +kernel
theorem dX3_hold_7 : decode cX3_hold 7 = .ok (.putfield 19, 3) := by decide +kernel
theorem dX3_hold_10 : decode cX3_hold 10 = .ok (.return_, 1) := by decide +kernel
theorem dX3_layRow_0 : decode cX3_layRow 0 = .ok (.aload_n 0, 1) := by decide +kernel
theorem dX3_layRow_1 : decode cX3_layRow 1 = .ok (.bipush 100, 2) := by decide +kernel
theorem dX3_layRow_3 : decode cX3_layRow 3 = .ok (.iload_n 1, 1) := by decide +kernel
theorem dX3_layRow_4 : decode cX3_layRow 4 = .ok (.iadd, 1) := by decide +kernel
theorem dX3_layRow_5 : decode cX3_layRow 5 = .ok (.putfield 15, 3) := by decide +kernel
theorem dX3_layRow_8 : decode cX3_layRow 8 = .ok (.aload_n 0, 1) := by decide +kernel
theorem dX3_layRow_9 : decode cX3_layRow 9 = .ok (.iload_n 2, 1) := by decide +kernel
theorem dX3_layRow_10 : decode cX3_layRow 10 = .ok (.putfield 19, 3) := by decide +kernel
theorem dX3_layRow_13 : decode cX3_layRow 13 = .ok (.aload_n 0, 1) := by decide +kernel
theorem dX3_layRow_14 : decode cX3_layRow 14 = .ok (.getfield 9, 3) := by decide +kernel
theorem dX3_layRow_17 : decode cX3_layRow 17 = .ok (.lconst 0, 1) := by decide +kernel
theorem dX3_layRow_18 : decode cX3_layRow 18 = .ok (.invokestatic 22, 3) := by decide +kernel
theorem dX3_layRow_21 : decode cX3_layRow 21 = .ok (.return_, 1) := by decide +kernel
theorem dX3_hasPart_0 : decode cX3_hasPart 0 = .ok (.iload_n 1, 1) := by decide +kernel
theorem dX3_hasPart_1 : decode cX3_hasPart 1 = .ok (.ifCond .lt 21, 3) := by decide +kernel
theorem dX3_hasPart_4 : decode cX3_hasPart 4 = .ok (.iload_n 1, 1) := by decide +kernel
theorem dX3_hasPart_5 : decode cX3_hasPart 5 = .ok (.i2l, 1) := by decide +kernel
theorem dX3_hasPart_6 : decode cX3_hasPart 6 = .ok (.iload_n 2, 1) := by decide +kernel
theorem dX3_hasPart_7 : decode cX3_hasPart 7 = .ok (.i2l, 1) := by decide +kernel
theorem dX3_hasPart_8 : decode cX3_hasPart 8 = .ok (.ladd, 1) := by decide +kernel
theorem dX3_hasPart_9 : decode cX3_hasPart 9 = .ok (.aload_n 0, 1) := by decide +kernel
theorem dX3_hasPart_10 : decode cX3_hasPart 10 = .ok (.getfield 19, 3) := by decide +kernel
theorem dX3_hasPart_13 : decode cX3_hasPart 13 = .ok (.i2l, 1) := by decide +kernel
theorem dX3_hasPart_14 : decode cX3_hasPart 14 = .ok (.lcmp, 1) := by decide +kernel
theorem dX3_hasPart_15 : decode cX3_hasPart 15 = .ok (.ifCond .gt 7, 3) := by decide +kernel
theorem dX3_hasPart_18 : decode cX3_hasPart 18 = .ok (.iconst 1, 1) := by decide +kernel
theorem dX3_hasPart_19 : decode cX3_hasPart 19 = .ok (.goto 4, 3) := by decide +kernel
theorem dX3_hasPart_22 : decode cX3_hasPart 22 = .ok (.iconst 0, 1) := by decide +kernel
theorem dX3_hasPart_23 : decode cX3_hasPart 23 = .ok (.ireturn, 1) := by decide +kernel
theorem dX3_put_0 : decode cX3_put 0 = .ok (.iload_n 1, 1) := by decide +kernel
theorem dX3_put_1 : decode cX3_put 1 = .ok (.ifCond .lt 11, 3) := by decide +kernel
theorem dX3_put_4 : decode cX3_put 4 = .ok (.iload_n 1, 1) := by decide +kernel
theorem dX3_put_5 : decode cX3_put 5 = .ok (.aload_n 0, 1) := by decide +kernel
theorem dX3_put_6 : decode cX3_put 6 = .ok (.getfield 19, 3) := by decide +kernel
theorem dX3_put_9 : decode cX3_put 9 = .ok (.if_icmp .lt 4, 3) := by decide +kernel
theorem dX3_put_12 : decode cX3_put 12 = .ok (.return_, 1) := by decide +kernel
theorem dX3_put_13 : decode cX3_put 13 = .ok (.aload_n 0, 1) := by decide +kernel
theorem dX3_put_14 : decode cX3_put 14 = .ok (.getfield 15, 3) := by decide +kernel
theorem dX3_put_17 : decode cX3_put 17 = .ok (.bipush 100, 2) := by decide +kernel
theorem dX3_put_19 : decode cX3_put 19 = .ok (.isub, 1) := by decide +kernel
theorem dX3_put_20 : decode cX3_put 20 = .ok (.tableswitch 80 0 3 #[32, 45, 58, 70], 32) := by decide +kernel
theorem dX3_put_52 : decode cX3_put 52 = .ok (.aload_n 0, 1) := by decide +kernel
theorem dX3_put_53 : decode cX3_put 53 = .ok (.getfield 9, 3) := by decide +kernel
theorem dX3_put_56 : decode cX3_put 56 = .ok (.iload_n 1, 1) := by decide +kernel
theorem dX3_put_57 : decode cX3_put 57 = .ok (.lload_n 2, 1) := by decide +kernel
theorem dX3_put_58 : decode cX3_put 58 = .ok (.l2i, 1) := by decide +kernel
theorem dX3_put_59 : decode cX3_put 59 = .ok (.i2b, 1) := by decide +kernel
theorem dX3_put_60 : decode cX3_put 60 = .ok (.i2l, 1) := by decide +kernel
theorem dX3_put_61 : decode cX3_put 61 = .ok (.lastore, 1) := by decide +kernel
theorem dX3_put_62 : decode cX3_put 62 = .ok (.goto 38, 3) := by decide +kernel
theorem dX3_put_65 : decode cX3_put 65 = .ok (.aload_n 0, 1) := by decide +kernel
theorem dX3_put_66 : decode cX3_put 66 = .ok (.getfield 9, 3) := by decide +kernel
theorem dX3_put_69 : decode cX3_put 69 = .ok (.iload_n 1, 1) := by decide +kernel
theorem dX3_put_70 : decode cX3_put 70 = .ok (.lload_n 2, 1) := by decide +kernel
theorem dX3_put_71 : decode cX3_put 71 = .ok (.l2i, 1) := by decide +kernel
theorem dX3_put_72 : decode cX3_put 72 = .ok (.i2s, 1) := by decide +kernel
theorem dX3_put_73 : decode cX3_put 73 = .ok (.i2l, 1) := by decide +kernel
theorem dX3_put_74 : decode cX3_put 74 = .ok (.lastore, 1) := by decide +kernel
theorem dX3_put_75 : decode cX3_put 75 = .ok (.goto 25, 3) := by decide +kernel
theorem dX3_put_78 : decode cX3_put 78 = .ok (.aload_n 0, 1) := by decide +kernel
theorem dX3_put_79 : decode cX3_put 79 = .ok (.getfield 9, 3) := by decide +kernel
theorem dX3_put_82 : decode cX3_put 82 = .ok (.iload_n 1, 1) := by decide +kernel
theorem dX3_put_83 : decode cX3_put 83 = .ok (.lload_n 2, 1) := by decide +kernel
theorem dX3_put_84 : decode cX3_put 84 = .ok (.l2i, 1) := by decide +kernel
theorem dX3_put_85 : decode cX3_put 85 = .ok (.i2l, 1) := by decide +kernel
theorem dX3_put_86 : decode cX3_put 86 = .ok (.lastore, 1) := by decide +kernel
theorem dX3_put_87 : decode cX3_put 87 = .ok (.goto 13, 3) := by decide +kernel
theorem dX3_put_90 : decode cX3_put 90 = .ok (.aload_n 0, 1) := by decide +kernel
theorem dX3_put_91 : decode cX3_put 91 = .ok (.getfield 9, 3) := by decide +kernel
theorem dX3_put_94 : decode cX3_put 94 = .ok (.iload_n 1, 1) := by decide +kernel
theorem dX3_put_95 : decode cX3_put 95 = .ok (.lload_n 2, 1) := by decide +kernel
theorem dX3_put_96 : decode cX3_put 96 = .ok (.lastore, 1) := by decide +kernel
theorem dX3_put_97 : decode cX3_put 97 = .ok (.goto 3, 3) := by decide +kernel
theorem dX3_put_100 : decode cX3_put 100 = .ok (.return_, 1) := by decide +kernel
theorem dX3_asInt_0 : decode cX3_asInt 0 = .ok (.iload_n 1, 1) := by decide +kernel
theorem dX3_asInt_1 : decode cX3_asInt 1 = .ok (.ifCond .lt 21, 3) := by decide +kernel
theorem dX3_asInt_4 : decode cX3_asInt 4 = .ok (.iload_n 1, 1) := by decide +kernel
theorem dX3_asInt_5 : decode cX3_asInt 5 = .ok (.aload_n 0, 1) := by decide +kernel
theorem dX3_asInt_6 : decode cX3_asInt 6 = .ok (.getfield 19, 3) := by decide +kernel
theorem dX3_asInt_9 : decode cX3_asInt 9 = .ok (.if_icmp .ge 13, 3) := by decide +kernel
theorem dX3_asInt_12 : decode cX3_asInt 12 = .ok (.aload_n 0, 1) := by decide +kernel
theorem dX3_asInt_13 : decode cX3_asInt 13 = .ok (.getfield 9, 3) := by decide +kernel
theorem dX3_asInt_16 : decode cX3_asInt 16 = .ok (.iload_n 1, 1) := by decide +kernel
theorem dX3_asInt_17 : decode cX3_asInt 17 = .ok (.laload, 1) := by decide +kernel
theorem dX3_asInt_18 : decode cX3_asInt 18 = .ok (.l2i, 1) := by decide +kernel
theorem dX3_asInt_19 : decode cX3_asInt 19 = .ok (.goto 4, 3) := by decide +kernel
theorem dX3_asInt_22 : decode cX3_asInt 22 = .ok (.iconst (-1), 1) := by decide +kernel
theorem dX3_asInt_23 : decode cX3_asInt 23 = .ok (.ireturn, 1) := by decide +kernel
theorem dX4_init_0 : decode cX4_init 0 = .ok (.aload_n 0, 1) := by decide +kernel
theorem dX4_init_1 : decode cX4_init 1 = .ok (.invokespecial 3, 3) := by decide +kernel
theorem dX4_init_4 : decode cX4_init 4 = .ok (.return_, 1) := by decide +kernel
theorem dX4_open_0 : decode cX4_open 0 = .ok (.aload_n 0, 1) := by decide +kernel
theorem dX4_open_1 : decode cX4_open 1 = .ok (.iload_n 1, 1) := by decide +kernel
theorem dX4_open_2 : decode cX4_open 2 = .ok (.putfield 9, 3) := by decide +kernel
theorem dX4_open_5 : decode cX4_open 5 = .ok (.aload_n 0, 1) := by decide +kernel
theorem dX4_open_6 : decode cX4_open 6 = .ok (.iload_n 2, 1) := by decide +kernel
theorem dX4_open_7 : decode cX4_open 7 = .ok (.putfield 15, 3) := by decide +kernel
theorem dX4_open_10 : decode cX4_open 10 = .ok (.aload_n 0, 1) := by decide +kernel
theorem dX4_open_11 : decode cX4_open 11 = .ok (.iload_n 3, 1) := by decide +kernel
theorem dX4_open_12 : decode cX4_open 12 = .ok (.putfield 18, 3) := by decide +kernel
theorem dX4_open_15 : decode cX4_open 15 = .ok (.aload_n 0, 1) := by decide +kernel
theorem dX4_open_16 : decode cX4_open 16 = .ok (.iconst 0, 1) := by decide +kernel
theorem dX4_open_17 : decode cX4_open 17 = .ok (.putfield 21, 3) := by decide +kernel
theorem dX4_open_20 : decode cX4_open 20 = .ok (.aload_n 0, 1) := by decide +kernel
theorem dX4_open_21 : decode cX4_open 21 = .ok (.iconst 0, 1) := by decide +kernel
theorem dX4_open_22 : decode cX4_open 22 = .ok (.putfield 24, 3) := by decide +kernel
theorem dX4_open_25 : decode cX4_open 25 = .ok (.return_, 1) := by decide +kernel
theorem dX4_takeShop_0 : decode cX4_takeShop 0 = .ok (.aload_n 0, 1) := by decide +kernel
theorem dX4_takeShop_1 : decode cX4_takeShop 1 = .ok (.aload_n 1, 1) := by decide +kernel
theorem dX4_takeShop_2 : decode cX4_takeShop 2 = .ok (.getfield 9, 3) := by decide +kernel
theorem dX4_takeShop_5 : decode cX4_takeShop 5 = .ok (.putfield 9, 3) := by decide +kernel
theorem dX4_takeShop_8 : decode cX4_takeShop 8 = .ok (.aload_n 0, 1) := by decide +kernel
theorem dX4_takeShop_9 : decode cX4_takeShop 9 = .ok (.aload_n 1, 1) := by decide +kernel
theorem dX4_takeShop_10 : decode cX4_takeShop 10 = .ok (.getfield 15, 3) := by decide +kernel
theorem dX4_takeShop_13 : decode cX4_takeShop 13 = .ok (.putfield 15, 3) := by decide +kernel
theorem dX4_takeShop_16 : decode cX4_takeShop 16 = .ok (.aload_n 0, 1) := by decide +kernel
theorem dX4_takeShop_17 : decode cX4_takeShop 17 = .ok (.aload_n 1, 1) := by decide +kernel
theorem dX4_takeShop_18 : decode cX4_takeShop 18 = .ok (.getfield 18, 3) := by decide +kernel
theorem dX4_takeShop_21 : decode cX4_takeShop 21 = .ok (.putfield 18, 3) := by decide +kernel
theorem dX4_takeShop_24 : decode cX4_takeShop 24 = .ok (.aload_n 0, 1) := by decide +kernel
theorem dX4_takeShop_25 : decode cX4_takeShop 25 = .ok (.aload_n 1, 1) := by decide +kernel
theorem dX4_takeShop_26 : decode cX4_takeShop 26 = .ok (.getfield 21, 3) := by decide +kernel
theorem dX4_takeShop_29 : decode cX4_takeShop 29 = .ok (.putfield 21, 3) := by decide +kernel
theorem dX4_takeShop_32 : decode cX4_takeShop 32 = .ok (.aload_n 0, 1) := by decide +kernel
theorem dX4_takeShop_33 : decode cX4_takeShop 33 = .ok (.aload_n 1, 1) := by decide +kernel
theorem dX4_takeShop_34 : decode cX4_takeShop 34 = .ok (.getfield 24, 3) := by decide +kernel
theorem dX4_takeShop_37 : decode cX4_takeShop 37 = .ok (.putfield 24, 3) := by decide +kernel
theorem dX4_takeShop_40 : decode cX4_takeShop 40 = .ok (.return_, 1) := by decide +kernel
theorem dX4_isOf_0 : decode cX4_isOf 0 = .ok (.aload_n 0, 1) := by decide +kernel
theorem dX4_isOf_1 : decode cX4_isOf 1 = .ok (.getfield 9, 3) := by decide +kernel
theorem dX4_isOf_4 : decode cX4_isOf 4 = .ok (.istore_n 2, 1) := by decide +kernel
theorem dX4_isOf_5 : decode cX4_isOf 5 = .ok (.iconst 0, 1) := by decide +kernel
theorem dX4_isOf_6 : decode cX4_isOf 6 = .ok (.istore_n 3, 1) := by decide +kernel
theorem dX4_isOf_7 : decode cX4_isOf 7 = .ok (.iload_n 3, 1) := by decide +kernel
theorem dX4_isOf_8 : decode cX4_isOf 8 = .ok (.bipush 7, 2) := by decide +kernel
theorem dX4_isOf_10 : decode cX4_isOf 10 = .ok (.if_icmp .ge 29, 3) := by decide +kernel
theorem dX4_isOf_13 : decode cX4_isOf 13 = .ok (.iload_n 2, 1) := by decide +kernel
theorem dX4_isOf_14 : decode cX4_isOf 14 = .ok (.invokestatic 27, 3) := by decide +kernel
theorem dX4_isOf_17 : decode cX4_isOf 17 = .ok (.ifCond .eq 22, 3) := by decide +kernel
theorem dX4_isOf_20 : decode cX4_isOf 20 = .ok (.iload_n 2, 1) := by decide +kernel
theorem dX4_isOf_21 : decode cX4_isOf 21 = .ok (.iload_n 1, 1) := by decide +kernel
theorem dX4_isOf_22 : decode cX4_isOf 22 = .ok (.if_icmp .ne 5, 3) := by decide +kernel
theorem dX4_isOf_25 : decode cX4_isOf 25 = .ok (.iconst 1, 1) := by decide +kernel
theorem dX4_isOf_26 : decode cX4_isOf 26 = .ok (.ireturn, 1) := by decide +kernel
theorem dX4_isOf_27 : decode cX4_isOf 27 = .ok (.getstatic 31, 3) := by decide +kernel
theorem dX4_isOf_30 : decode cX4_isOf 30 = .ok (.iload_n 2, 1) := by decide +kernel
theorem dX4_isOf_31 : decode cX4_isOf 31 = .ok (.iaload, 1) := by decide +kernel
theorem dX4_isOf_32 : decode cX4_isOf 32 = .ok (.istore_n 2, 1) := by decide +kernel
theorem dX4_isOf_33 : decode cX4_isOf 33 = .ok (.iinc 3 1, 3) := by decide +kernel
theorem dX4_isOf_36 : decode cX4_isOf 36 = .ok (.goto (-29), 3) := by decide +kernel
theorem dX4_isOf_39 : decode cX4_isOf 39 = .ok (.iconst 0, 1) := by decide +kernel
theorem dX4_isOf_40 : decode cX4_isOf 40 = .ok (.ireturn, 1) := by decide +kernel
theorem dX4_takesStampsOnly_0 : decode cX4_takesStampsOnly 0 = .ok (.aload_n 0, 1) := by decide +kernel
theorem dX4_takesStampsOnly_1 : decode cX4_takesStampsOnly 1 = .ok (.getfield 9, 3) := by decide +kernel
theorem dX4_takesStampsOnly_4 : decode cX4_takesStampsOnly 4 = .ok (.iconst 4, 1) := by decide +kernel
theorem dX4_takesStampsOnly_5 : decode cX4_takesStampsOnly 5 = .ok (.if_icmp .eq 12, 3) := by decide +kernel
theorem dX4_takesStampsOnly_8 : decode cX4_takesStampsOnly 8 = .ok (.aload_n 0, 1) := by decide +kernel
theorem dX4_takesStampsOnly_9 : decode cX4_takesStampsOnly 9 = .ok (.getfield 9, 3) := by decide +kernel
theorem dX4_takesStampsOnly_12 : decode cX4_takesStampsOnly 12 = .ok (.bipush 6, 2) := by decide +kernel
theorem dX4_takesStampsOnly_14 : decode cX4_takesStampsOnly 14 = .ok (.if_icmp .ne 7, 3) := by decide +kernel
theorem dX4_takesStampsOnly_17 : decode cX4_takesStampsOnly 17 = .ok (.iconst 1, 1) := by decide +kernel
theorem dX4_takesStampsOnly_18 : decode cX4_takesStampsOnly 18 = .ok (.goto 4, 3) := by decide +kernel
theorem dX4_takesStampsOnly_21 : decode cX4_takesStampsOnly 21 = .ok (.iconst 0, 1) := by decide +kernel
theorem dX4_takesStampsOnly_22 : decode cX4_takesStampsOnly 22 = .ok (.ireturn, 1) := by decide +kernel
theorem dX4_asksNow_0 : decode cX4_asksNow 0 = .ok (.aload_n 0, 1) := by decide +kernel
theorem dX4_asksNow_1 : decode cX4_asksNow 1 = .ok (.getfield 18, 3) := by decide +kernel
theorem dX4_asksNow_4 : decode cX4_asksNow 4 = .ok (.i2l, 1) := by decide +kernel
theorem dX4_asksNow_5 : decode cX4_asksNow 5 = .ok (.lstore_n 1, 1) := by decide +kernel
theorem dX4_asksNow_6 : decode cX4_asksNow 6 = .ok (.aload_n 0, 1) := by decide +kernel
theorem dX4_asksNow_7 : decode cX4_asksNow 7 = .ok (.getfield 9, 3) := by decide +kernel
theorem dX4_asksNow_10 : decode cX4_asksNow 10 = .ok (.tableswitch 106 1 6 #[38, 78, 55, 106, 95, 38], 38) := by decide +kernel
theorem dX4_asksNow_48 : decode cX4_asksNow 48 = .ok (.lload_n 1, 1) := by decide +kernel
theorem dX4_asksNow_49 : decode cX4_asksNow 49 = .ok (.aload_n 0, 1) := by decide +kernel
theorem dX4_asksNow_50 : decode cX4_asksNow 50 = .ok (.getfield 15, 3) := by decide +kernel
theorem dX4_asksNow_53 : decode cX4_asksNow 53 = .ok (.i2l, 1) := by decide +kernel
theorem dX4_asksNow_54 : decode cX4_asksNow 54 = .ok (.aload_n 0, 1) := by decide +kernel
theorem dX4_asksNow_55 : decode cX4_asksNow 55 = .ok (.getfield 21, 3) := by decide +kernel
theorem dX4_asksNow_58 : decode cX4_asksNow 58 = .ok (.i2l, 1) := by decide +kernel
theorem dX4_asksNow_59 : decode cX4_asksNow 59 = .ok (.lmul, 1) := by decide +kernel
theorem dX4_asksNow_60 : decode cX4_asksNow 60 = .ok (.ladd, 1) := by decide +kernel
theorem dX4_asksNow_61 : decode cX4_asksNow 61 = .ok (.lstore_n 1, 1) := by decide +kernel
theorem dX4_asksNow_62 : decode cX4_asksNow 62 = .ok (.goto 54, 3) := by decide +kernel
theorem dX4_asksNow_65 : decode cX4_asksNow 65 = .ok (.lload_n 1, 1) := by decide +kernel
theorem dX4_asksNow_66 : decode cX4_asksNow 66 = .ok (.aload_n 0, 1) := by decide +kernel
theorem dX4_asksNow_67 : decode cX4_asksNow 67 = .ok (.getfield 15, 3) := by decide +kernel
theorem dX4_asksNow_70 : decode cX4_asksNow 70 = .ok (.i2l, 1) := by decide +kernel
theorem dX4_asksNow_71 : decode cX4_asksNow 71 = .ok (.aload_n 0, 1) := by decide +kernel
theorem dX4_asksNow_72 : decode cX4_asksNow 72 = .ok (.getfield 21, 3) := by decide +kernel
theorem dX4_asksNow_75 : decode cX4_asksNow 75 = .ok (.i2l, 1) := by decide +kernel
theorem dX4_asksNow_76 : decode cX4_asksNow 76 = .ok (.lmul, 1) := by decide +kernel
theorem dX4_asksNow_77 : decode cX4_asksNow 77 = .ok (.aload_n 0, 1) := by decide +kernel
theorem dX4_asksNow_78 : decode cX4_asksNow 78 = .ok (.getfield 21, 3) := by decide +kernel
theorem dX4_asksNow_81 : decode cX4_asksNow 81 = .ok (.i2l, 1) := by decide +kernel
theorem dX4_asksNow_82 : decode cX4_asksNow 82 = .ok (.lmul, 1) := by decide +kernel
theorem dX4_asksNow_83 : decode cX4_asksNow 83 = .ok (.ladd, 1) := by decide +kernel
theorem dX4_asksNow_84 : decode cX4_asksNow 84 = .ok (.lstore_n 1, 1) := by decide +kernel
theorem dX4_asksNow_85 : decode cX4_asksNow 85 = .ok (.goto 31, 3) := by decide +kernel
theorem dX4_asksNow_88 : decode cX4_asksNow 88 = .ok (.lload_n 1, 1) := by decide +kernel
theorem dX4_asksNow_89 : decode cX4_asksNow 89 = .ok (.aload_n 0, 1) := by decide +kernel
theorem dX4_asksNow_90 : decode cX4_asksNow 90 = .ok (.getfield 15, 3) := by decide +kernel
theorem dX4_asksNow_93 : decode cX4_asksNow 93 = .ok (.i2l, 1) := by decide +kernel
theorem dX4_asksNow_94 : decode cX4_asksNow 94 = .ok (.aload_n 0, 1) := by decide +kernel
theorem dX4_asksNow_95 : decode cX4_asksNow 95 = .ok (.getfield 24, 3) := by decide +kernel
theorem dX4_asksNow_98 : decode cX4_asksNow 98 = .ok (.i2l, 1) := by decide +kernel
theorem dX4_asksNow_99 : decode cX4_asksNow 99 = .ok (.lmul, 1) := by decide +kernel
theorem dX4_asksNow_100 : decode cX4_asksNow 100 = .ok (.lsub, 1) := by decide +kernel
theorem dX4_asksNow_101 : decode cX4_asksNow 101 = .ok (.lstore_n 1, 1) := by decide +kernel
theorem dX4_asksNow_102 : decode cX4_asksNow 102 = .ok (.goto 14, 3) := by decide +kernel
theorem dX4_asksNow_105 : decode cX4_asksNow 105 = .ok (.lload_n 1, 1) := by decide +kernel
theorem dX4_asksNow_106 : decode cX4_asksNow 106 = .ok (.aload_n 0, 1) := by decide +kernel
theorem dX4_asksNow_107 : decode cX4_asksNow 107 = .ok (.getfield 24, 3) := by decide +kernel
theorem dX4_asksNow_110 : decode cX4_asksNow 110 = .ok (.i2l, 1) := by decide +kernel
theorem dX4_asksNow_111 : decode cX4_asksNow 111 = .ok (.lsub, 1) := by decide +kernel
theorem dX4_asksNow_112 : decode cX4_asksNow 112 = .ok (.lstore_n 1, 1) := by decide +kernel
theorem dX4_asksNow_113 : decode cX4_asksNow 113 = .ok (.goto 3, 3) := by decide +kernel
theorem dX4_asksNow_116 : decode cX4_asksNow 116 = .ok (.lconst 1, 1) := by decide +kernel
theorem dX4_asksNow_117 : decode cX4_asksNow 117 = .ok (.ldc2_w 35, 3) := by decide +kernel
theorem dX4_asksNow_120 : decode cX4_asksNow 120 = .ok (.lload_n 1, 1) := by decide +kernel
theorem dX4_asksNow_121 : decode cX4_asksNow 121 = .ok (.invokestatic 37, 3) := by decide +kernel
theorem dX4_asksNow_124 : decode cX4_asksNow 124 = .ok (.invokestatic 43, 3) := by decide +kernel
theorem dX4_asksNow_127 : decode cX4_asksNow 127 = .ok (.l2i, 1) := by decide +kernel
theorem dX4_asksNow_128 : decode cX4_asksNow 128 = .ok (.ireturn, 1) := by decide +kernel
theorem dX4_saysAs_0 : decode cX4_saysAs 0 = .ok (.iload_n 1, 1) := by decide +kernel
theorem dX4_saysAs_1 : decode cX4_saysAs 1 = .ok (.tableswitch 59 0 5 #[39, 44, 54, 44, 59, 54], 39) := by decide +kernel
theorem dX4_saysAs_40 : decode cX4_saysAs 40 = .ok (.aload_n 0, 1) := by decide +kernel
theorem dX4_saysAs_41 : decode cX4_saysAs 41 = .ok (.getfield 18, 3) := by decide +kernel
theorem dX4_saysAs_44 : decode cX4_saysAs 44 = .ok (.ireturn, 1) := by decide +kernel
theorem dX4_saysAs_45 : decode cX4_saysAs 45 = .ok (.aload_n 0, 1) := by decide +kernel
theorem dX4_saysAs_46 : decode cX4_saysAs 46 = .ok (.invokevirtual 46, 3) := by decide +kernel
theorem dX4_saysAs_49 : decode cX4_saysAs 49 = .ok (.aload_n 0, 1) := by decide +kernel
theorem dX4_saysAs_50 : decode cX4_saysAs 50 = .ok (.getfield 18, 3) := by decide +kernel
theorem dX4_saysAs_53 : decode cX4_saysAs 53 = .ok (.isub, 1) := by decide +kernel
theorem dX4_saysAs_54 : decode cX4_saysAs 54 = .ok (.ireturn, 1) := by decide +kernel
theorem dX4_saysAs_55 : decode cX4_saysAs 55 = .ok (.aload_n 0, 1) := by decide +kernel
theorem dX4_saysAs_56 : decode cX4_saysAs 56 = .ok (.getfield 24, 3) := by decide +kernel
theorem dX4_saysAs_59 : decode cX4_saysAs 59 = .ok (.ireturn, 1) := by decide +kernel
theorem dX4_saysAs_60 : decode cX4_saysAs 60 = .ok (.aload_n 0, 1) := by decide +kernel
theorem dX4_saysAs_61 : decode cX4_saysAs 61 = .ok (.invokevirtual 46, 3) := by decide +kernel
theorem dX4_saysAs_64 : decode cX4_saysAs 64 = .ok (.ireturn, 1) := by decide +kernel
theorem dX5_init_0 : decode cX5_init 0 = .ok (.aload_n 0, 1) := by decide +kernel
theorem dX5_init_1 : decode cX5_init 1 = .ok (.invokespecial 3, 3) := by decide +kernel
theorem dX5_init_4 : decode cX5_init 4 = .ok (.aload_n 0, 1) := by decide +kernel
theorem dX5_init_5 : decode cX5_init 5 = .ok (.bipush 20, 2) := by decide +kernel
theorem dX5_init_7 : decode cX5_init 7 = .ok (.newarray .int, 2) := by decide +kernel
theorem dX5_init_9 : decode cX5_init 9 = .ok (.putfield 9, 3) := by decide +kernel
theorem dX5_init_12 : decode cX5_init 12 = .ok (.return_, 1) := by decide +kernel
theorem dX5_begin_0 : decode cX5_begin 0 = .ok (.aload_n 0, 1) := by decide +kernel
theorem dX5_begin_1 : decode cX5_begin 1 = .ok (.getfield 15, 3) := by decide +kernel
theorem dX5_begin_4 : decode cX5_begin 4 = .ok (.ifCond .lt 22, 3) := by decide +kernel
theorem dX5_begin_7 : decode cX5_begin 7 = .ok (.aload_n 0, 1) := by decide +kernel
theorem dX5_begin_8 : decode cX5_begin 8 = .ok (.getfield 15, 3) := by decide +kernel
theorem dX5_begin_11 : decode cX5_begin 11 = .ok (.bipush 20, 2) := by decide +kernel
theorem dX5_begin_13 : decode cX5_begin 13 = .ok (.if_icmp .ge 13, 3) := by decide +kernel
theorem dX5_begin_16 : decode cX5_begin 16 = .ok (.aload_n 0, 1) := by decide +kernel
theorem dX5_begin_17 : decode cX5_begin 17 = .ok (.getfield 9, 3) := by decide +kernel
theorem dX5_begin_20 : decode cX5_begin 20 = .ok (.aload_n 0, 1) := by decide +kernel
theorem dX5_begin_21 : decode cX5_begin 21 = .ok (.getfield 15, 3) := by decide +kernel
theorem dX5_begin_24 : decode cX5_begin 24 = .ok (.iload_n 1, 1) := by decide +kernel
theorem dX5_begin_25 : decode cX5_begin 25 = .ok (.iastore, 1) := by decide +kernel
theorem dX5_begin_26 : decode cX5_begin 26 = .ok (.aload_n 0, 1) := by decide +kernel
theorem dX5_begin_27 : decode cX5_begin 27 = .ok (.dup, 1) := by decide +kernel
theorem dX5_begin_28 : decode cX5_begin 28 = .ok (.getfield 15, 3) := by decide +kernel
theorem dX5_begin_31 : decode cX5_begin 31 = .ok (.iconst 1, 1) := by decide +kernel
theorem dX5_begin_32 : decode cX5_begin 32 = .ok (.iadd, 1) := by decide +kernel
theorem dX5_begin_33 : decode cX5_begin 33 = .ok (.putfield 15, 3) := by decide +kernel
theorem dX5_begin_36 : decode cX5_begin 36 = .ok (.return_, 1) := by decide +kernel
theorem dJ6_compare_7cf53_0 : decode cJ6_compare_7cf53 0 = .ok (.iload_n 0, 1) := by decide +kernel
theorem dJ6_compare_7cf53_1 : decode cJ6_compare_7cf53 1 = .ok (.iload_n 1, 1) := by decide +kernel
theorem dJ6_compare_7cf53_2 : decode cJ6_compare_7cf53 2 = .ok (.if_icmp .ge 7, 3) := by decide +kernel
theorem dJ6_compare_7cf53_5 : decode cJ6_compare_7cf53 5 = .ok (.iconst (-1), 1) := by decide +kernel
theorem dJ6_compare_7cf53_6 : decode cJ6_compare_7cf53 6 = .ok (.goto 13, 3) := by decide +kernel
theorem dJ6_compare_7cf53_9 : decode cJ6_compare_7cf53 9 = .ok (.iload_n 0, 1) := by decide +kernel
theorem dJ6_compare_7cf53_10 : decode cJ6_compare_7cf53 10 = .ok (.iload_n 1, 1) := by decide +kernel
theorem dJ6_compare_7cf53_11 : decode cJ6_compare_7cf53 11 = .ok (.if_icmp .ne 7, 3) := by decide +kernel
theorem dJ6_compare_7cf53_14 : decode cJ6_compare_7cf53 14 = .ok (.iconst 0, 1) := by decide +kernel
theorem dJ6_compare_7cf53_15 : decode cJ6_compare_7cf53 15 = .ok (.goto 4, 3) := by decide +kernel
theorem dJ6_compare_7cf53_18 : decode cJ6_compare_7cf53 18 = .ok (.iconst 1, 1) := by decide +kernel
theorem dJ6_compare_7cf53_19 : decode cJ6_compare_7cf53 19 = .ok (.ireturn, 1) := by decide +kernel
theorem dJ9_max_7cf53_0 : decode cJ9_max_7cf53 0 = .ok (.iload_n 0, 1) := by decide +kernel
theorem dJ9_max_7cf53_1 : decode cJ9_max_7cf53 1 = .ok (.iload_n 1, 1) := by decide +kernel
theorem dJ9_max_7cf53_2 : decode cJ9_max_7cf53 2 = .ok (.if_icmp .lt 7, 3) := by decide +kernel
theorem dJ9_max_7cf53_5 : decode cJ9_max_7cf53 5 = .ok (.iload_n 0, 1) := by decide +kernel
theorem dJ9_max_7cf53_6 : decode cJ9_max_7cf53 6 = .ok (.goto 4, 3) := by decide +kernel
theorem dJ9_max_7cf53_9 : decode cJ9_max_7cf53 9 = .ok (.iload_n 1, 1) := by decide +kernel
theorem dJ9_max_7cf53_10 : decode cJ9_max_7cf53 10 = .ok (.ireturn, 1) := by decide +kernel
theorem dJ9_max_f86c9_0 : decode cJ9_max_f86c9 0 = .ok (.lload_n 0, 1) := by decide +kernel
theorem dJ9_max_f86c9_1 : decode cJ9_max_f86c9 1 = .ok (.lload_n 2, 1) := by decide +kernel
theorem dJ9_max_f86c9_2 : decode cJ9_max_f86c9 2 = .ok (.lcmp, 1) := by decide +kernel
theorem dJ9_max_f86c9_3 : decode cJ9_max_f86c9 3 = .ok (.ifCond .lt 7, 3) := by decide +kernel
theorem dJ9_max_f86c9_6 : decode cJ9_max_f86c9 6 = .ok (.lload_n 0, 1) := by decide +kernel
theorem dJ9_max_f86c9_7 : decode cJ9_max_f86c9 7 = .ok (.goto 4, 3) := by decide +kernel
theorem dJ9_max_f86c9_10 : decode cJ9_max_f86c9 10 = .ok (.lload_n 2, 1) := by decide +kernel
theorem dJ9_max_f86c9_11 : decode cJ9_max_f86c9 11 = .ok (.lreturn, 1) := by decide +kernel
theorem dJ9_min_7cf53_0 : decode cJ9_min_7cf53 0 = .ok (.iload_n 0, 1) := by decide +kernel
theorem dJ9_min_7cf53_1 : decode cJ9_min_7cf53 1 = .ok (.iload_n 1, 1) := by decide +kernel
theorem dJ9_min_7cf53_2 : decode cJ9_min_7cf53 2 = .ok (.if_icmp .gt 7, 3) := by decide +kernel
theorem dJ9_min_7cf53_5 : decode cJ9_min_7cf53 5 = .ok (.iload_n 0, 1) := by decide +kernel
theorem dJ9_min_7cf53_6 : decode cJ9_min_7cf53 6 = .ok (.goto 4, 3) := by decide +kernel
theorem dJ9_min_7cf53_9 : decode cJ9_min_7cf53 9 = .ok (.iload_n 1, 1) := by decide +kernel
theorem dJ9_min_7cf53_10 : decode cJ9_min_7cf53 10 = .ok (.ireturn, 1) := by decide +kernel
theorem dJ9_min_f86c9_0 : decode cJ9_min_f86c9 0 = .ok (.lload_n 0, 1) := by decide +kernel
theorem dJ9_min_f86c9_1 : decode cJ9_min_f86c9 1 = .ok (.lload_n 2, 1) := by decide +kernel
theorem dJ9_min_f86c9_2 : decode cJ9_min_f86c9 2 = .ok (.lcmp, 1) := by decide +kernel
theorem dJ9_min_f86c9_3 : decode cJ9_min_f86c9 3 = .ok (.ifCond .gt 7, 3) := by decide +kernel
theorem dJ9_min_f86c9_6 : decode cJ9_min_f86c9 6 = .ok (.lload_n 0, 1) := by decide +kernel
theorem dJ9_min_f86c9_7 : decode cJ9_min_f86c9 7 = .ok (.goto 4, 3) := by decide +kernel
theorem dJ9_min_f86c9_10 : decode cJ9_min_f86c9 10 = .ok (.lload_n 2, 1) := by decide +kernel
theorem dJ9_min_f86c9_11 : decode cJ9_min_f86c9 11 = .ok (.lreturn, 1) := by decide +kernel
theorem dJ0_length_8abf5_0 : decode cJ0_length_8abf5 0 = .ok (.aload_n 0, 1) := by decide +kernel
theorem dJ0_length_8abf5_1 : decode cJ0_length_8abf5 1 = .ok (.getfield 9, 3) := by decide +kernel
theorem dJ0_length_8abf5_4 : decode cJ0_length_8abf5 4 = .ok (.arraylength, 1) := by decide +kernel
theorem dJ0_length_8abf5_5 : decode cJ0_length_8abf5 5 = .ok (.aload_n 0, 1) := by decide +kernel
theorem dJ0_length_8abf5_6 : decode cJ0_length_8abf5 6 = .ok (.invokevirtual 335, 3) := by decide +kernel
theorem dJ0_length_8abf5_9 : decode cJ0_length_8abf5 9 = .ok (.ishr, 1) := by decide +kernel
theorem dJ0_length_8abf5_10 : decode cJ0_length_8abf5 10 = .ok (.ireturn, 1) := by decide +kernel
theorem dJ0_charAt_5068e_0 : decode cJ0_charAt_5068e 0 = .ok (.aload_n 0, 1) := by decide +kernel
theorem dJ0_charAt_5068e_1 : decode cJ0_charAt_5068e 1 = .ok (.invokevirtual 492, 3) := by decide +kernel
theorem dJ0_charAt_5068e_4 : decode cJ0_charAt_5068e 4 = .ok (.ifCond .eq 12, 3) := by decide +kernel
theorem dJ0_charAt_5068e_7 : decode cJ0_charAt_5068e 7 = .ok (.aload_n 0, 1) := by decide +kernel
theorem dJ0_charAt_5068e_8 : decode cJ0_charAt_5068e 8 = .ok (.getfield 9, 3) := by decide +kernel
theorem dJ0_charAt_5068e_11 : decode cJ0_charAt_5068e 11 = .ok (.iload_n 1, 1) := by decide +kernel
theorem dJ0_charAt_5068e_12 : decode cJ0_charAt_5068e 12 = .ok (.invokestatic 495, 3) := by decide +kernel
theorem dJ0_charAt_5068e_15 : decode cJ0_charAt_5068e 15 = .ok (.ireturn, 1) := by decide +kernel
theorem dJ0_charAt_5068e_16 : decode cJ0_charAt_5068e 16 = .ok (.aload_n 0, 1) := by decide +kernel
theorem dJ0_charAt_5068e_17 : decode cJ0_charAt_5068e 17 = .ok (.getfield 9, 3) := by decide +kernel
theorem dJ0_charAt_5068e_20 : decode cJ0_charAt_5068e 20 = .ok (.iload_n 1, 1) := by decide +kernel
theorem dJ0_charAt_5068e_21 : decode cJ0_charAt_5068e 21 = .ok (.invokestatic 498, 3) := by decide +kernel
theorem dJ0_charAt_5068e_24 : decode cJ0_charAt_5068e 24 = .ok (.ireturn, 1) := by decide +kernel
theorem dJ0_coder_7d493_0 : decode cJ0_coder_7d493 0 = .ok (.getstatic 38, 3) := by decide +kernel
theorem dJ0_coder_7d493_3 : decode cJ0_coder_7d493 3 = .ok (.ifCond .eq 10, 3) := by decide +kernel
theorem dJ0_coder_7d493_6 : decode cJ0_coder_7d493 6 = .ok (.aload_n 0, 1) := by decide +kernel
theorem dJ0_coder_7d493_7 : decode cJ0_coder_7d493 7 = .ok (.getfield 15, 3) := by decide +kernel
theorem dJ0_coder_7d493_10 : decode cJ0_coder_7d493 10 = .ok (.goto 4, 3) := by decide +kernel
theorem dJ0_coder_7d493_13 : decode cJ0_coder_7d493 13 = .ok (.iconst 1, 1) := by decide +kernel
theorem dJ0_coder_7d493_14 : decode cJ0_coder_7d493 14 = .ok (.ireturn, 1) := by decide +kernel
theorem dJ0_isLatin1_aae02_0 : decode cJ0_isLatin1_aae02 0 = .ok (.getstatic 38, 3) := by decide +kernel
theorem dJ0_isLatin1_aae02_3 : decode cJ0_isLatin1_aae02 3 = .ok (.ifCond .eq 14, 3) := by decide +kernel
theorem dJ0_isLatin1_aae02_6 : decode cJ0_isLatin1_aae02 6 = .ok (.aload_n 0, 1) := by decide +kernel
theorem dJ0_isLatin1_aae02_7 : decode cJ0_isLatin1_aae02 7 = .ok (.getfield 15, 3) := by decide +kernel
theorem dJ0_isLatin1_aae02_10 : decode cJ0_isLatin1_aae02 10 = .ok (.ifCond .ne 7, 3) := by decide +kernel
theorem dJ0_isLatin1_aae02_13 : decode cJ0_isLatin1_aae02 13 = .ok (.iconst 1, 1) := by decide +kernel
theorem dJ0_isLatin1_aae02_14 : decode cJ0_isLatin1_aae02 14 = .ok (.goto 4, 3) := by decide +kernel
theorem dJ0_isLatin1_aae02_17 : decode cJ0_isLatin1_aae02 17 = .ok (.iconst 0, 1) := by decide +kernel
theorem dJ0_isLatin1_aae02_18 : decode cJ0_isLatin1_aae02 18 = .ok (.ireturn, 1) := by decide +kernel
theorem dJ0_checkIndex_df160_0 : decode cJ0_checkIndex_df160 0 = .ok (.iload_n 0, 1) := by decide +kernel
theorem dJ0_checkIndex_df160_1 : decode cJ0_checkIndex_df160 1 = .ok (.iload_n 1, 1) := by decide +kernel
theorem dJ0_checkIndex_df160_2 : decode cJ0_checkIndex_df160 2 = .ok (.getstatic 1053, 3) := by decide +kernel
theorem dJ0_checkIndex_df160_5 : decode cJ0_checkIndex_df160 5 = .ok (.invokestatic 1059, 3) := by decide +kernel
theorem dJ0_checkIndex_df160_8 : decode cJ0_checkIndex_df160 8 = .ok (.pop, 1) := by decide +kernel
theorem dJ0_checkIndex_df160_9 : decode cJ0_checkIndex_df160 9 = .ok (.return_, 1) := by decide +kernel
theorem dJ1_charAt_3b067_0 : decode cJ1_charAt_3b067 0 = .ok (.iload_n 1, 1) := by decide +kernel
theorem dJ1_charAt_3b067_1 : decode cJ1_charAt_3b067 1 = .ok (.aload_n 0, 1) := by decide +kernel
theorem dJ1_charAt_3b067_2 : decode cJ1_charAt_3b067 2 = .ok (.arraylength, 1) := by decide +kernel
theorem dJ1_charAt_3b067_3 : decode cJ1_charAt_3b067 3 = .ok (.invokestatic 9, 3) := by decide +kernel
theorem dJ1_charAt_3b067_6 : decode cJ1_charAt_3b067 6 = .ok (.aload_n 0, 1) := by decide +kernel
theorem dJ1_charAt_3b067_7 : decode cJ1_charAt_3b067 7 = .ok (.iload_n 1, 1) := by decide +kernel
theorem dJ1_charAt_3b067_8 : decode cJ1_charAt_3b067 8 = .ok (.baload, 1) := by decide +kernel
theorem dJ1_charAt_3b067_9 : decode cJ1_charAt_3b067 9 = .ok (.sipush 255, 3) := by decide +kernel
theorem dJ1_charAt_3b067_12 : decode cJ1_charAt_3b067 12 = .ok (.iand, 1) := by decide +kernel
theorem dJ1_charAt_3b067_13 : decode cJ1_charAt_3b067 13 = .ok (.i2c, 1) := by decide +kernel
theorem dJ1_charAt_3b067_14 : decode cJ1_charAt_3b067 14 = .ok (.ireturn, 1) := by decide +kernel
theorem dJ2_getChar_3b067_0 : decode cJ2_getChar_3b067 0 = .ok (.getstatic 44, 3) := by decide +kernel
theorem dJ2_getChar_3b067_3 : decode cJ2_getChar_3b067 3 = .ok (.ifCond .ne 25, 3) := by decide +kernel
theorem dJ2_getChar_3b067_6 : decode cJ2_getChar_3b067 6 = .ok (.iload_n 1, 1) := by decide +kernel
theorem dJ2_getChar_3b067_7 : decode cJ2_getChar_3b067 7 = .ok (.ifCond .lt 11, 3) := by decide +kernel
theorem dJ2_getChar_3b067_10 : decode cJ2_getChar_3b067 10 = .ok (.iload_n 1, 1) := by decide +kernel
theorem dJ2_getChar_3b067_11 : decode cJ2_getChar_3b067 11 = .ok (.aload_n 0, 1) := by decide +kernel
theorem dJ2_getChar_3b067_12 : decode cJ2_getChar_3b067 12 = .ok (.invokestatic 48, 3) := by decide +kernel
theorem dJ2_getChar_3b067_15 : decode cJ2_getChar_3b067 15 = .ok (.if_icmp .lt 13, 3) := by decide +kernel
theorem dJ2_getChar_3b067_18 : decode cJ2_getChar_3b067 18 = .ok (.new 52, 3) := by decide +kernel
theorem dJ2_getChar_3b067_21 : decode cJ2_getChar_3b067 21 = .ok (.dup, 1) := by decide +kernel
theorem dJ2_getChar_3b067_22 : decode cJ2_getChar_3b067 22 = .ok (.ldc 54, 2) := by decide +kernel
theorem dJ2_getChar_3b067_24 : decode cJ2_getChar_3b067 24 = .ok (.invokespecial 56, 3) := by decide +kernel
theorem dJ2_getChar_3b067_27 : decode cJ2_getChar_3b067 27 = .ok (.athrow, 1) := by decide +kernel
theorem dJ2_getChar_3b067_28 : decode cJ2_getChar_3b067 28 = .ok (.iload_n 1, 1) := by decide +kernel
theorem dJ2_getChar_3b067_29 : decode cJ2_getChar_3b067 29 = .ok (.iconst 1, 1) := by decide +kernel
theorem dJ2_getChar_3b067_30 : decode cJ2_getChar_3b067 30 = .ok (.ishl, 1) := by decide +kernel
theorem dJ2_getChar_3b067_31 : decode cJ2_getChar_3b067 31 = .ok (.istore_n 1, 1) := by decide +kernel
theorem dJ2_getChar_3b067_32 : decode cJ2_getChar_3b067 32 = .ok (.aload_n 0, 1) := by decide +kernel
theorem dJ2_getChar_3b067_33 : decode cJ2_getChar_3b067 33 = .ok (.iload_n 1, 1) := by decide +kernel
theorem dJ2_getChar_3b067_34 : decode cJ2_getChar_3b067 34 = .ok (.iinc 1 1, 3) := by decide +kernel
theorem dJ2_getChar_3b067_37 : decode cJ2_getChar_3b067 37 = .ok (.baload, 1) := by decide +kernel
theorem dJ2_getChar_3b067_38 : decode cJ2_getChar_3b067 38 = .ok (.sipush 255, 3) := by decide +kernel
theorem dJ2_getChar_3b067_41 : decode cJ2_getChar_3b067 41 = .ok (.iand, 1) := by decide +kernel
theorem dJ2_getChar_3b067_42 : decode cJ2_getChar_3b067 42 = .ok (.getstatic 59, 3) := by decide +kernel
theorem dJ2_getChar_3b067_45 : decode cJ2_getChar_3b067 45 = .ok (.ishl, 1) := by decide +kernel
theorem dJ2_getChar_3b067_46 : decode cJ2_getChar_3b067 46 = .ok (.aload_n 0, 1) := by decide +kernel
theorem dJ2_getChar_3b067_47 : decode cJ2_getChar_3b067 47 = .ok (.iload_n 1, 1) := by decide +kernel
theorem dJ2_getChar_3b067_48 : decode cJ2_getChar_3b067 48 = .ok (.baload, 1) := by decide +kernel
theorem dJ2_getChar_3b067_49 : decode cJ2_getChar_3b067 49 = .ok (.sipush 255, 3) := by decide +kernel
theorem dJ2_getChar_3b067_52 : decode cJ2_getChar_3b067 52 = .ok (.iand, 1) := by decide +kernel
theorem dJ2_getChar_3b067_53 : decode cJ2_getChar_3b067 53 = .ok (.getstatic 63, 3) := by decide +kernel
theorem dJ2_getChar_3b067_56 : decode cJ2_getChar_3b067 56 = .ok (.ishl, 1) := by decide +kernel
theorem dJ2_getChar_3b067_57 : decode cJ2_getChar_3b067 57 = .ok (.ior, 1) := by decide +kernel
theorem dJ2_getChar_3b067_58 : decode cJ2_getChar_3b067 58 = .ok (.i2c, 1) := by decide +kernel
theorem dJ2_getChar_3b067_59 : decode cJ2_getChar_3b067 59 = .ok (.ireturn, 1) := by decide +kernel
theorem dJ2_length_9d52b_0 : decode cJ2_length_9d52b 0 = .ok (.aload_n 0, 1) := by decide +kernel
theorem dJ2_length_9d52b_1 : decode cJ2_length_9d52b 1 = .ok (.arraylength, 1) := by decide +kernel
theorem dJ2_length_9d52b_2 : decode cJ2_length_9d52b 2 = .ok (.iconst 1, 1) := by decide +kernel
theorem dJ2_length_9d52b_3 : decode cJ2_length_9d52b 3 = .ok (.ishr, 1) := by decide +kernel
theorem dJ2_length_9d52b_4 : decode cJ2_length_9d52b 4 = .ok (.ireturn, 1) := by decide +kernel
theorem dJ2_charAt_3b067_0 : decode cJ2_charAt_3b067 0 = .ok (.iload_n 1, 1) := by decide +kernel
theorem dJ2_charAt_3b067_1 : decode cJ2_charAt_3b067 1 = .ok (.aload_n 0, 1) := by decide +kernel
theorem dJ2_charAt_3b067_2 : decode cJ2_charAt_3b067 2 = .ok (.invokestatic 67, 3) := by decide +kernel
theorem dJ2_charAt_3b067_5 : decode cJ2_charAt_3b067 5 = .ok (.aload_n 0, 1) := by decide +kernel
theorem dJ2_charAt_3b067_6 : decode cJ2_charAt_3b067 6 = .ok (.iload_n 1, 1) := by decide +kernel
theorem dJ2_charAt_3b067_7 : decode cJ2_charAt_3b067 7 = .ok (.invokestatic 71, 3) := by decide +kernel
theorem dJ2_charAt_3b067_10 : decode cJ2_charAt_3b067 10 = .ok (.ireturn, 1) := by decide +kernel
theorem dJ2_checkIndex_2214a_0 : decode cJ2_checkIndex_2214a 0 = .ok (.iload_n 0, 1) := by decide +kernel
theorem dJ2_checkIndex_2214a_1 : decode cJ2_checkIndex_2214a 1 = .ok (.aload_n 1, 1) := by decide +kernel
theorem dJ2_checkIndex_2214a_2 : decode cJ2_checkIndex_2214a 2 = .ok (.invokestatic 48, 3) := by decide +kernel
theorem dJ2_checkIndex_2214a_5 : decode cJ2_checkIndex_2214a 5 = .ok (.invokestatic 414, 3) := by decide +kernel
theorem dJ2_checkIndex_2214a_8 : decode cJ2_checkIndex_2214a 8 = .ok (.return_, 1) := by decide +kernel
theorem dJ7_fill_d0a16_0 : decode cJ7_fill_d0a16 0 = .ok (.iconst 0, 1) := by decide +kernel
theorem dJ7_fill_d0a16_1 : decode cJ7_fill_d0a16 1 = .ok (.istore_n 3, 1) := by decide +kernel
theorem dJ7_fill_d0a16_2 : decode cJ7_fill_d0a16 2 = .ok (.aload_n 0, 1) := by decide +kernel
theorem dJ7_fill_d0a16_3 : decode cJ7_fill_d0a16 3 = .ok (.arraylength, 1) := by decide +kernel
theorem dJ7_fill_d0a16_4 : decode cJ7_fill_d0a16 4 = .ok (.istore 4, 2) := by decide +kernel
theorem dJ7_fill_d0a16_6 : decode cJ7_fill_d0a16 6 = .ok (.iload_n 3, 1) := by decide +kernel
theorem dJ7_fill_d0a16_7 : decode cJ7_fill_d0a16 7 = .ok (.iload 4, 2) := by decide +kernel
theorem dJ7_fill_d0a16_9 : decode cJ7_fill_d0a16 9 = .ok (.if_icmp .ge 13, 3) := by decide +kernel
theorem dJ7_fill_d0a16_12 : decode cJ7_fill_d0a16 12 = .ok (.aload_n 0, 1) := by decide +kernel
theorem dJ7_fill_d0a16_13 : decode cJ7_fill_d0a16 13 = .ok (.iload_n 3, 1) := by decide +kernel
theorem dJ7_fill_d0a16_14 : decode cJ7_fill_d0a16 14 = .ok (.lload_n 1, 1) := by decide +kernel
theorem dJ7_fill_d0a16_15 : decode cJ7_fill_d0a16 15 = .ok (.lastore, 1) := by decide +kernel
theorem dJ7_fill_d0a16_16 : decode cJ7_fill_d0a16 16 = .ok (.iinc 3 1, 3) := by decide +kernel
theorem dJ7_fill_d0a16_19 : decode cJ7_fill_d0a16 19 = .ok (.goto (-13), 3) := by decide +kernel
theorem dJ7_fill_d0a16_22 : decode cJ7_fill_d0a16 22 = .ok (.return_, 1) := by decide +kernel
theorem dJ3_checkIndex_8e157_0 : decode cJ3_checkIndex_8e157 0 = .ok (.iload_n 0, 1) := by decide +kernel
theorem dJ3_checkIndex_8e157_1 : decode cJ3_checkIndex_8e157 1 = .ok (.ifCond .lt 8, 3) := by decide +kernel
theorem dJ3_checkIndex_8e157_4 : decode cJ3_checkIndex_8e157 4 = .ok (.iload_n 0, 1) := by decide +kernel
theorem dJ3_checkIndex_8e157_5 : decode cJ3_checkIndex_8e157 5 = .ok (.iload_n 1, 1) := by decide +kernel
theorem dJ3_checkIndex_8e157_6 : decode cJ3_checkIndex_8e157 6 = .ok (.if_icmp .lt 10, 3) := by decide +kernel
theorem dJ3_checkIndex_8e157_9 : decode cJ3_checkIndex_8e157 9 = .ok (.aload_n 2, 1) := by decide +kernel
theorem dJ3_checkIndex_8e157_10 : decode cJ3_checkIndex_8e157 10 = .ok (.iload_n 0, 1) := by decide +kernel
theorem dJ3_checkIndex_8e157_11 : decode cJ3_checkIndex_8e157 11 = .ok (.iload_n 1, 1) := by decide +kernel
theorem dJ3_checkIndex_8e157_12 : decode cJ3_checkIndex_8e157 12 = .ok (.invokestatic 95, 3) := by decide +kernel
theorem dJ3_checkIndex_8e157_15 : decode cJ3_checkIndex_8e157 15 = .ok (.athrow, 1) := by decide +kernel
theorem dJ3_checkIndex_8e157_16 : decode cJ3_checkIndex_8e157 16 = .ok (.iload_n 0, 1) := by decide +kernel
theorem dJ3_checkIndex_8e157_17 : decode cJ3_checkIndex_8e157 17 = .ok (.ireturn, 1) := by decide +kernel
