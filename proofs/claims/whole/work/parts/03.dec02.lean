theorem dX6_init_5 : decode cX6_init 5 = .ok (.iconst 0, 1) := by decide +kernel
theorem dX6_init_6 : decode cX6_init 6 = .ok (.putfield 9, 3) := by decide +kernel
theorem dX6_init_9 : decode cX6_init 9 = .ok (.aload_n 0, 1) := by decide +kernel
theorem dX6_init_10 : decode cX6_init 10 = .ok (.bipush (-9), 2) := by decide +kernel
theorem dX6_init_12 : decode cX6_init 12 = .ok (.putfield 15, 3) := by decide +kernel
theorem dX6_init_15 : decode cX6_init 15 = .ok (.aload_n 0, 1) := by decide +kernel
theorem dX6_init_16 : decode cX6_init 16 = .ok (.iload_n 1, 1) := by decide +kernel
theorem dX6_init_17 : decode cX6_init 17 = .ok (.putfield 18, 3) := by decide +kernel
theorem dX6_init_20 : decode cX6_init 20 = .ok (.aload_n 0, 1) := by decide +kernel
theorem dX6_init_21 : decode cX6_init 21 = .ok (.iload_n 2, 1) := by decide +kernel
theorem dX6_init_22 : decode cX6_init 22 = .ok (.putfield 21, 3) := by decide +kernel
theorem dX6_init_25 : decode cX6_init 25 = .ok (.aload_n 0, 1) := by decide +kernel
theorem dX6_init_26 : decode cX6_init 26 = .ok (.iload_n 3, 1) := by decide +kernel
theorem dX6_init_27 : decode cX6_init 27 = .ok (.putfield 25, 3) := by decide +kernel
theorem dX6_init_30 : decode cX6_init 30 = .ok (.aload_n 0, 1) := by decide +kernel
theorem dX6_init_31 : decode cX6_init 31 = .ok (.iload 4, 2) := by decide +kernel
theorem dX6_init_33 : decode cX6_init 33 = .ok (.putfield 28, 3) := by decide +kernel
theorem dX6_init_36 : decode cX6_init 36 = .ok (.aload_n 0, 1) := by decide +kernel
theorem dX6_init_37 : decode cX6_init 37 = .ok (.iload 5, 2) := by decide +kernel
theorem dX6_init_39 : decode cX6_init 39 = .ok (.putfield 31, 3) := by decide +kernel
theorem dX6_init_42 : decode cX6_init 42 = .ok (.aload_n 0, 1) := by decide +kernel
theorem dX6_init_43 : decode cX6_init 43 = .ok (.iload 6, 2) := by decide +kernel
theorem dX6_init_45 : decode cX6_init 45 = .ok (.putfield 34, 3) := by decide +kernel
theorem dX6_init_48 : decode cX6_init 48 = .ok (.aload_n 0, 1) := by decide +kernel
theorem dX6_init_49 : decode cX6_init 49 = .ok (.iload 7, 2) := by decide +kernel
theorem dX6_init_51 : decode cX6_init 51 = .ok (.putfield 37, 3) := by decide +kernel
theorem dX6_init_54 : decode cX6_init 54 = .ok (.return_, 1) := by decide +kernel
theorem dX6_group_0 : decode cX6_group 0 = .ok (.aload_n 0, 1) := by decide +kernel
theorem dX6_group_1 : decode cX6_group 1 = .ok (.getfield 25, 3) := by decide +kernel
theorem dX6_group_4 : decode cX6_group 4 = .ok (.bipush 10, 2) := by decide +kernel
theorem dX6_group_6 : decode cX6_group 6 = .ok (.imul, 1) := by decide +kernel
theorem dX6_group_7 : decode cX6_group 7 = .ok (.aload_n 0, 1) := by decide +kernel
theorem dX6_group_8 : decode cX6_group 8 = .ok (.getfield 28, 3) := by decide +kernel
theorem dX6_group_11 : decode cX6_group 11 = .ok (.iadd, 1) := by decide +kernel
theorem dX6_group_12 : decode cX6_group 12 = .ok (.bipush 6, 2) := by decide +kernel
theorem dX6_group_14 : decode cX6_group 14 = .ok (.imul, 1) := by decide +kernel
theorem dX6_group_15 : decode cX6_group 15 = .ok (.aload_n 0, 1) := by decide +kernel
theorem dX6_group_16 : decode cX6_group 16 = .ok (.getfield 31, 3) := by decide +kernel
theorem dX6_group_19 : decode cX6_group 19 = .ok (.iadd, 1) := by decide +kernel
theorem dX6_group_20 : decode cX6_group 20 = .ok (.ireturn, 1) := by decide +kernel
theorem dX7_init_0 : decode cX7_init 0 = .ok (.aload_n 0, 1) := by decide +kernel
theorem dX7_init_1 : decode cX7_init 1 = .ok (.invokespecial 3, 3) := by decide +kernel
theorem dX7_init_4 : decode cX7_init 4 = .ok (.aload_n 0, 1) := by decide +kernel
theorem dX7_init_5 : decode cX7_init 5 = .ok (.bipush 6, 2) := by decide +kernel
theorem dX7_init_7 : decode cX7_init 7 = .ok (.newarray .int, 2) := by decide +kernel
theorem dX7_init_9 : decode cX7_init 9 = .ok (.putfield 9, 3) := by decide +kernel
theorem dX7_init_12 : decode cX7_init 12 = .ok (.aload_n 0, 1) := by decide +kernel
theorem dX7_init_13 : decode cX7_init 13 = .ok (.bipush 6, 2) := by decide +kernel
theorem dX7_init_15 : decode cX7_init 15 = .ok (.newarray .int, 2) := by decide +kernel
theorem dX7_init_17 : decode cX7_init 17 = .ok (.putfield 13, 3) := by decide +kernel
theorem dX7_init_20 : decode cX7_init 20 = .ok (.aload_n 0, 1) := by decide +kernel
theorem dX7_init_21 : decode cX7_init 21 = .ok (.bipush 6, 2) := by decide +kernel
theorem dX7_init_23 : decode cX7_init 23 = .ok (.newarray .int, 2) := by decide +kernel
theorem dX7_init_25 : decode cX7_init 25 = .ok (.putfield 16, 3) := by decide +kernel
theorem dX7_init_28 : decode cX7_init 28 = .ok (.aload_n 0, 1) := by decide +kernel
theorem dX7_init_29 : decode cX7_init 29 = .ok (.bipush 6, 2) := by decide +kernel
theorem dX7_init_31 : decode cX7_init 31 = .ok (.newarray .int, 2) := by decide +kernel
theorem dX7_init_33 : decode cX7_init 33 = .ok (.putfield 19, 3) := by decide +kernel
theorem dX7_init_36 : decode cX7_init 36 = .ok (.aload_n 0, 1) := by decide +kernel
theorem dX7_init_37 : decode cX7_init 37 = .ok (.bipush 60, 2) := by decide +kernel
theorem dX7_init_39 : decode cX7_init 39 = .ok (.newarray .int, 2) := by decide +kernel
theorem dX7_init_41 : decode cX7_init 41 = .ok (.putfield 22, 3) := by decide +kernel
theorem dX7_init_44 : decode cX7_init 44 = .ok (.aload_n 0, 1) := by decide +kernel
theorem dX7_init_45 : decode cX7_init 45 = .ok (.bipush 7, 2) := by decide +kernel
theorem dX7_init_47 : decode cX7_init 47 = .ok (.newarray .int, 2) := by decide +kernel
theorem dX7_init_49 : decode cX7_init 49 = .ok (.putfield 25, 3) := by decide +kernel
theorem dX7_init_52 : decode cX7_init 52 = .ok (.aload_n 0, 1) := by decide +kernel
theorem dX7_init_53 : decode cX7_init 53 = .ok (.sipush 200, 3) := by decide +kernel
theorem dX7_init_56 : decode cX7_init 56 = .ok (.newarray .long, 2) := by decide +kernel
theorem dX7_init_58 : decode cX7_init 58 = .ok (.putfield 28, 3) := by decide +kernel
theorem dX7_init_61 : decode cX7_init 61 = .ok (.aload_n 0, 1) := by decide +kernel
theorem dX7_init_62 : decode cX7_init 62 = .ok (.new 32, 3) := by decide +kernel
theorem dX7_init_65 : decode cX7_init 65 = .ok (.dup, 1) := by decide +kernel
theorem dX7_init_66 : decode cX7_init 66 = .ok (.invokespecial 34, 3) := by decide +kernel
theorem dX7_init_69 : decode cX7_init 69 = .ok (.putfield 35, 3) := by decide +kernel
theorem dX7_init_72 : decode cX7_init 72 = .ok (.aload_n 0, 1) := by decide +kernel
theorem dX7_init_73 : decode cX7_init 73 = .ok (.new 39, 3) := by decide +kernel
theorem dX7_init_76 : decode cX7_init 76 = .ok (.dup, 1) := by decide +kernel
theorem dX7_init_77 : decode cX7_init 77 = .ok (.invokespecial 41, 3) := by decide +kernel
theorem dX7_init_80 : decode cX7_init 80 = .ok (.putfield 42, 3) := by decide +kernel
theorem dX7_init_83 : decode cX7_init 83 = .ok (.aload_n 0, 1) := by decide +kernel
theorem dX7_init_84 : decode cX7_init 84 = .ok (.new 46, 3) := by decide +kernel
theorem dX7_init_87 : decode cX7_init 87 = .ok (.dup, 1) := by decide +kernel
theorem dX7_init_88 : decode cX7_init 88 = .ok (.invokespecial 48, 3) := by decide +kernel
theorem dX7_init_91 : decode cX7_init 91 = .ok (.putfield 49, 3) := by decide +kernel
theorem dX7_init_94 : decode cX7_init 94 = .ok (.aload_n 0, 1) := by decide +kernel
theorem dX7_init_95 : decode cX7_init 95 = .ok (.new 53, 3) := by decide +kernel
theorem dX7_init_98 : decode cX7_init 98 = .ok (.dup, 1) := by decide +kernel
theorem dX7_init_99 : decode cX7_init 99 = .ok (.invokespecial 55, 3) := by decide +kernel
theorem dX7_init_102 : decode cX7_init 102 = .ok (.putfield 56, 3) := by decide +kernel
theorem dX7_init_105 : decode cX7_init 105 = .ok (.aload_n 0, 1) := by decide +kernel
theorem dX7_init_106 : decode cX7_init 106 = .ok (.iconst 0, 1) := by decide +kernel
theorem dX7_init_107 : decode cX7_init 107 = .ok (.putfield 60, 3) := by decide +kernel
theorem dX7_init_110 : decode cX7_init 110 = .ok (.aload_n 0, 1) := by decide +kernel
theorem dX7_init_111 : decode cX7_init 111 = .ok (.iconst 0, 1) := by decide +kernel
theorem dX7_init_112 : decode cX7_init 112 = .ok (.putfield 64, 3) := by decide +kernel
theorem dX7_init_115 : decode cX7_init 115 = .ok (.aload_n 0, 1) := by decide +kernel
theorem dX7_init_116 : decode cX7_init 116 = .ok (.iconst 0, 1) := by decide +kernel
theorem dX7_init_117 : decode cX7_init 117 = .ok (.putfield 67, 3) := by decide +kernel
theorem dX7_init_120 : decode cX7_init 120 = .ok (.aload_n 0, 1) := by decide +kernel
theorem dX7_init_121 : decode cX7_init 121 = .ok (.iconst 0, 1) := by decide +kernel
theorem dX7_init_122 : decode cX7_init 122 = .ok (.putfield 70, 3) := by decide +kernel
theorem dX7_init_125 : decode cX7_init 125 = .ok (.return_, 1) := by decide +kernel
theorem dX7_house_0 : decode cX7_house 0 = .ok (.aload_n 0, 1) := by decide +kernel
theorem dX7_house_1 : decode cX7_house 1 = .ok (.getfield 64, 3) := by decide +kernel
theorem dX7_house_4 : decode cX7_house 4 = .ok (.bipush 10, 2) := by decide +kernel
theorem dX7_house_6 : decode cX7_house 6 = .ok (.if_icmp .lt 10, 3) := by decide +kernel
theorem dX7_house_9 : decode cX7_house 9 = .ok (.aload_n 0, 1) := by decide +kernel
theorem dX7_house_10 : decode cX7_house 10 = .ok (.bipush (-6), 2) := by decide +kernel
theorem dX7_house_12 : decode cX7_house 12 = .ok (.invokevirtual 73, 3) := by decide +kernel
theorem dX7_house_15 : decode cX7_house 15 = .ok (.ireturn, 1) := by decide +kernel
theorem dX7_house_16 : decode cX7_house 16 = .ok (.aload_n 0, 1) := by decide +kernel
theorem dX7_house_17 : decode cX7_house 17 = .ok (.dup, 1) := by decide +kernel
theorem dX7_house_18 : decode cX7_house 18 = .ok (.getfield 64, 3) := by decide +kernel
theorem dX7_house_21 : decode cX7_house 21 = .ok (.iconst 1, 1) := by decide +kernel
theorem dX7_house_22 : decode cX7_house 22 = .ok (.iadd, 1) := by decide +kernel
theorem dX7_house_23 : decode cX7_house 23 = .ok (.putfield 64, 3) := by decide +kernel
theorem dX7_house_26 : decode cX7_house 26 = .ok (.aload_n 0, 1) := by decide +kernel
theorem dX7_house_27 : decode cX7_house 27 = .ok (.getfield 64, 3) := by decide +kernel
theorem dX7_house_30 : decode cX7_house 30 = .ok (.iconst 1, 1) := by decide +kernel
theorem dX7_house_31 : decode cX7_house 31 = .ok (.isub, 1) := by decide +kernel
theorem dX7_house_32 : decode cX7_house 32 = .ok (.ireturn, 1) := by decide +kernel
theorem dX7_kind_0 : decode cX7_kind 0 = .ok (.iload_n 1, 1) := by decide +kernel
theorem dX7_kind_1 : decode cX7_kind 1 = .ok (.iconst 1, 1) := by decide +kernel
theorem dX7_kind_2 : decode cX7_kind 2 = .ok (.if_icmp .lt 7, 3) := by decide +kernel
theorem dX7_kind_5 : decode cX7_kind 5 = .ok (.iload_n 2, 1) := by decide +kernel
theorem dX7_kind_6 : decode cX7_kind 6 = .ok (.ifCond .ge 10, 3) := by decide +kernel
theorem dX7_kind_9 : decode cX7_kind 9 = .ok (.aload_n 0, 1) := by decide +kernel
theorem dX7_kind_10 : decode cX7_kind 10 = .ok (.bipush (-4), 2) := by decide +kernel
theorem dX7_kind_12 : decode cX7_kind 12 = .ok (.invokevirtual 73, 3) := by decide +kernel
theorem dX7_kind_15 : decode cX7_kind 15 = .ok (.ireturn, 1) := by decide +kernel
theorem dX7_kind_16 : decode cX7_kind 16 = .ok (.iload_n 1, 1) := by decide +kernel
theorem dX7_kind_17 : decode cX7_kind 17 = .ok (.sipush 1000, 3) := by decide +kernel
theorem dX7_kind_20 : decode cX7_kind 20 = .ok (.if_icmp .gt 18, 3) := by decide +kernel
theorem dX7_kind_23 : decode cX7_kind 23 = .ok (.iload_n 2, 1) := by decide +kernel
theorem dX7_kind_24 : decode cX7_kind 24 = .ok (.bipush 100, 2) := by decide +kernel
theorem dX7_kind_26 : decode cX7_kind 26 = .ok (.if_icmp .gt 12, 3) := by decide +kernel
theorem dX7_kind_29 : decode cX7_kind 29 = .ok (.aload_n 0, 1) := by decide +kernel
theorem dX7_kind_30 : decode cX7_kind 30 = .ok (.getfield 67, 3) := by decide +kernel
theorem dX7_kind_33 : decode cX7_kind 33 = .ok (.bipush 6, 2) := by decide +kernel
theorem dX7_kind_35 : decode cX7_kind 35 = .ok (.if_icmp .lt 10, 3) := by decide +kernel
theorem dX7_kind_38 : decode cX7_kind 38 = .ok (.aload_n 0, 1) := by decide +kernel
theorem dX7_kind_39 : decode cX7_kind 39 = .ok (.bipush (-6), 2) := by decide +kernel
theorem dX7_kind_41 : decode cX7_kind 41 = .ok (.invokevirtual 73, 3) := by decide +kernel
theorem dX7_kind_44 : decode cX7_kind 44 = .ok (.ireturn, 1) := by decide +kernel
theorem dX7_kind_45 : decode cX7_kind 45 = .ok (.aload_n 0, 1) := by decide +kernel
theorem dX7_kind_46 : decode cX7_kind 46 = .ok (.getfield 9, 3) := by decide +kernel
theorem dX7_kind_49 : decode cX7_kind 49 = .ok (.aload_n 0, 1) := by decide +kernel
theorem dX7_kind_50 : decode cX7_kind 50 = .ok (.getfield 67, 3) := by decide +kernel
theorem dX7_kind_53 : decode cX7_kind 53 = .ok (.iload_n 1, 1) := by decide +kernel
theorem dX7_kind_54 : decode cX7_kind 54 = .ok (.iastore, 1) := by decide +kernel
theorem dX7_kind_55 : decode cX7_kind 55 = .ok (.aload_n 0, 1) := by decide +kernel
theorem dX7_kind_56 : decode cX7_kind 56 = .ok (.getfield 13, 3) := by decide +kernel
theorem dX7_kind_59 : decode cX7_kind 59 = .ok (.aload_n 0, 1) := by decide +kernel
theorem dX7_kind_60 : decode cX7_kind 60 = .ok (.getfield 67, 3) := by decide +kernel
theorem dX7_kind_63 : decode cX7_kind 63 = .ok (.iload_n 2, 1) := by decide +kernel
theorem dX7_kind_64 : decode cX7_kind 64 = .ok (.iastore, 1) := by decide +kernel
theorem dX7_kind_65 : decode cX7_kind 65 = .ok (.aload_n 0, 1) := by decide +kernel
theorem dX7_kind_66 : decode cX7_kind 66 = .ok (.dup, 1) := by decide +kernel
theorem dX7_kind_67 : decode cX7_kind 67 = .ok (.getfield 67, 3) := by decide +kernel
theorem dX7_kind_70 : decode cX7_kind 70 = .ok (.iconst 1, 1) := by decide +kernel
theorem dX7_kind_71 : decode cX7_kind 71 = .ok (.iadd, 1) := by decide +kernel
theorem dX7_kind_72 : decode cX7_kind 72 = .ok (.putfield 67, 3) := by decide +kernel
theorem dX7_kind_75 : decode cX7_kind 75 = .ok (.aload_n 0, 1) := by decide +kernel
theorem dX7_kind_76 : decode cX7_kind 76 = .ok (.getfield 67, 3) := by decide +kernel
theorem dX7_kind_79 : decode cX7_kind 79 = .ok (.iconst 1, 1) := by decide +kernel
theorem dX7_kind_80 : decode cX7_kind 80 = .ok (.isub, 1) := by decide +kernel
theorem dX7_kind_81 : decode cX7_kind 81 = .ok (.ireturn, 1) := by decide +kernel
theorem dX7_days_0 : decode cX7_days 0 = .ok (.iload_n 1, 1) := by decide +kernel
theorem dX7_days_1 : decode cX7_days 1 = .ok (.iconst 1, 1) := by decide +kernel
theorem dX7_days_2 : decode cX7_days 2 = .ok (.if_icmp .ge 10, 3) := by decide +kernel
theorem dX7_days_5 : decode cX7_days 5 = .ok (.aload_n 0, 1) := by decide +kernel
theorem dX7_days_6 : decode cX7_days 6 = .ok (.bipush (-4), 2) := by decide +kernel
theorem dX7_days_8 : decode cX7_days 8 = .ok (.invokevirtual 73, 3) := by decide +kernel
theorem dX7_days_11 : decode cX7_days 11 = .ok (.ireturn, 1) := by decide +kernel
theorem dX7_days_12 : decode cX7_days 12 = .ok (.iload_n 1, 1) := by decide +kernel
theorem dX7_days_13 : decode cX7_days 13 = .ok (.sipush 599, 3) := by decide +kernel
theorem dX7_days_16 : decode cX7_days 16 = .ok (.aload_n 0, 1) := by decide +kernel
theorem dX7_days_17 : decode cX7_days 17 = .ok (.getfield 60, 3) := by decide +kernel
theorem dX7_days_20 : decode cX7_days 20 = .ok (.isub, 1) := by decide +kernel
theorem dX7_days_21 : decode cX7_days 21 = .ok (.if_icmp .le 10, 3) := by decide +kernel
theorem dX7_days_24 : decode cX7_days 24 = .ok (.aload_n 0, 1) := by decide +kernel
theorem dX7_days_25 : decode cX7_days 25 = .ok (.bipush (-6), 2) := by decide +kernel
theorem dX7_days_27 : decode cX7_days 27 = .ok (.invokevirtual 73, 3) := by decide +kernel
theorem dX7_days_30 : decode cX7_days 30 = .ok (.ireturn, 1) := by decide +kernel
theorem dX7_days_31 : decode cX7_days 31 = .ok (.aload_n 0, 1) := by decide +kernel
theorem dX7_days_32 : decode cX7_days 32 = .ok (.dup, 1) := by decide +kernel
theorem dX7_days_33 : decode cX7_days 33 = .ok (.getfield 60, 3) := by decide +kernel
theorem dX7_days_36 : decode cX7_days 36 = .ok (.iload_n 1, 1) := by decide +kernel
theorem dX7_days_37 : decode cX7_days 37 = .ok (.iadd, 1) := by decide +kernel
theorem dX7_days_38 : decode cX7_days 38 = .ok (.putfield 60, 3) := by decide +kernel
theorem dX7_days_41 : decode cX7_days 41 = .ok (.aload_n 0, 1) := by decide +kernel
theorem dX7_days_42 : decode cX7_days 42 = .ok (.getfield 60, 3) := by decide +kernel
theorem dX7_days_45 : decode cX7_days 45 = .ok (.ireturn, 1) := by decide +kernel
theorem dX7_buy_0 : decode cX7_buy 0 = .ok (.aload_n 0, 1) := by decide +kernel
theorem dX7_buy_1 : decode cX7_buy 1 = .ok (.iload_n 1, 1) := by decide +kernel
theorem dX7_buy_2 : decode cX7_buy 2 = .ok (.invokevirtual 77, 3) := by decide +kernel
theorem dX7_buy_5 : decode cX7_buy 5 = .ok (.ifCond .eq 11, 3) := by decide +kernel
theorem dX7_buy_8 : decode cX7_buy 8 = .ok (.aload_n 0, 1) := by decide +kernel
theorem dX7_buy_9 : decode cX7_buy 9 = .ok (.iload_n 2, 1) := by decide +kernel
theorem dX7_buy_10 : decode cX7_buy 10 = .ok (.invokevirtual 81, 3) := by decide +kernel
theorem dX7_buy_13 : decode cX7_buy 13 = .ok (.ifCond .ne 9, 3) := by decide +kernel
theorem dX7_buy_16 : decode cX7_buy 16 = .ok (.aload_n 0, 1) := by decide +kernel
theorem dX7_buy_17 : decode cX7_buy 17 = .ok (.iconst (-1), 1) := by decide +kernel
theorem dX7_buy_18 : decode cX7_buy 18 = .ok (.invokevirtual 84, 3) := by decide +kernel
theorem dX7_buy_21 : decode cX7_buy 21 = .ok (.ireturn, 1) := by decide +kernel
theorem dX7_buy_22 : decode cX7_buy 22 = .ok (.iload_n 3, 1) := by decide +kernel
theorem dX7_buy_23 : decode cX7_buy 23 = .ok (.iconst 1, 1) := by decide +kernel
theorem dX7_buy_24 : decode cX7_buy 24 = .ok (.if_icmp .ge 10, 3) := by decide +kernel
theorem dX7_buy_27 : decode cX7_buy 27 = .ok (.aload_n 0, 1) := by decide +kernel
theorem dX7_buy_28 : decode cX7_buy 28 = .ok (.bipush (-4), 2) := by decide +kernel
theorem dX7_buy_30 : decode cX7_buy 30 = .ok (.invokevirtual 84, 3) := by decide +kernel
theorem dX7_buy_33 : decode cX7_buy 33 = .ok (.ireturn, 1) := by decide +kernel
theorem dX7_buy_34 : decode cX7_buy 34 = .ok (.iload_n 3, 1) := by decide +kernel
theorem dX7_buy_35 : decode cX7_buy 35 = .ok (.sipush 1000, 3) := by decide +kernel
theorem dX7_buy_38 : decode cX7_buy 38 = .ok (.if_icmp .gt 14, 3) := by decide +kernel
theorem dX7_buy_41 : decode cX7_buy 41 = .ok (.aload_n 0, 1) := by decide +kernel
theorem dX7_buy_42 : decode cX7_buy 42 = .ok (.getfield 35, 3) := by decide +kernel
theorem dX7_buy_45 : decode cX7_buy 45 = .ok (.invokevirtual 87, 3) := by decide +kernel
theorem dX7_buy_48 : decode cX7_buy 48 = .ok (.iconst 1, 1) := by decide +kernel
theorem dX7_buy_49 : decode cX7_buy 49 = .ok (.if_icmp .ge 10, 3) := by decide +kernel
theorem dX7_buy_52 : decode cX7_buy 52 = .ok (.aload_n 0, 1) := by decide +kernel
theorem dX7_buy_53 : decode cX7_buy 53 = .ok (.bipush (-6), 2) := by decide +kernel
theorem dX7_buy_55 : decode cX7_buy 55 = .ok (.invokevirtual 84, 3) := by decide +kernel
theorem dX7_buy_58 : decode cX7_buy 58 = .ok (.ireturn, 1) := by decide +kernel
theorem dX7_buy_59 : decode cX7_buy 59 = .ok (.aload_n 0, 1) := by decide +kernel
theorem dX7_buy_60 : decode cX7_buy 60 = .ok (.getfield 35, 3) := by decide +kernel
theorem dX7_buy_63 : decode cX7_buy 63 = .ok (.iload_n 1, 1) := by decide +kernel
theorem dX7_buy_64 : decode cX7_buy 64 = .ok (.iload_n 2, 1) := by decide +kernel
theorem dX7_buy_65 : decode cX7_buy 65 = .ok (.aload_n 0, 1) := by decide +kernel
theorem dX7_buy_66 : decode cX7_buy 66 = .ok (.getfield 60, 3) := by decide +kernel
theorem dX7_buy_69 : decode cX7_buy 69 = .ok (.iload_n 3, 1) := by decide +kernel
theorem dX7_buy_70 : decode cX7_buy 70 = .ok (.invokevirtual 91, 3) := by decide +kernel
theorem dX7_buy_73 : decode cX7_buy 73 = .ok (.aload_n 0, 1) := by decide +kernel
theorem dX7_buy_74 : decode cX7_buy 74 = .ok (.getfield 16, 3) := by decide +kernel
theorem dX7_buy_77 : decode cX7_buy 77 = .ok (.iload_n 2, 1) := by decide +kernel
theorem dX7_buy_78 : decode cX7_buy 78 = .ok (.dup2, 1) := by decide +kernel
theorem dX7_buy_79 : decode cX7_buy 79 = .ok (.iaload, 1) := by decide +kernel
theorem dX7_buy_80 : decode cX7_buy 80 = .ok (.iload_n 3, 1) := by decide +kernel
theorem dX7_buy_81 : decode cX7_buy 81 = .ok (.iadd, 1) := by decide +kernel
theorem dX7_buy_82 : decode cX7_buy 82 = .ok (.iastore, 1) := by decide +kernel
theorem dX7_buy_83 : decode cX7_buy 83 = .ok (.aload_n 0, 1) := by decide +kernel
theorem dX7_buy_84 : decode cX7_buy 84 = .ok (.getfield 35, 3) := by decide +kernel
theorem dX7_buy_87 : decode cX7_buy 87 = .ok (.iload_n 1, 1) := by decide +kernel
theorem dX7_buy_88 : decode cX7_buy 88 = .ok (.iload_n 2, 1) := by decide +kernel
theorem dX7_buy_89 : decode cX7_buy 89 = .ok (.aload_n 0, 1) := by decide +kernel
theorem dX7_buy_90 : decode cX7_buy 90 = .ok (.getfield 60, 3) := by decide +kernel
theorem dX7_buy_93 : decode cX7_buy 93 = .ok (.invokevirtual 95, 3) := by decide +kernel
theorem dX7_buy_96 : decode cX7_buy 96 = .ok (.ireturn, 1) := by decide +kernel
theorem dX7_scrap_0 : decode cX7_scrap 0 = .ok (.aload_n 0, 1) := by decide +kernel
theorem dX7_scrap_1 : decode cX7_scrap 1 = .ok (.iload_n 1, 1) := by decide +kernel
theorem dX7_scrap_2 : decode cX7_scrap 2 = .ok (.invokevirtual 77, 3) := by decide +kernel
theorem dX7_scrap_5 : decode cX7_scrap 5 = .ok (.ifCond .eq 11, 3) := by decide +kernel
theorem dX7_scrap_8 : decode cX7_scrap 8 = .ok (.aload_n 0, 1) := by decide +kernel
theorem dX7_scrap_9 : decode cX7_scrap 9 = .ok (.iload_n 2, 1) := by decide +kernel
theorem dX7_scrap_10 : decode cX7_scrap 10 = .ok (.invokevirtual 81, 3) := by decide +kernel
theorem dX7_scrap_13 : decode cX7_scrap 13 = .ok (.ifCond .ne 9, 3) := by decide +kernel
theorem dX7_scrap_16 : decode cX7_scrap 16 = .ok (.aload_n 0, 1) := by decide +kernel
theorem dX7_scrap_17 : decode cX7_scrap 17 = .ok (.iconst (-1), 1) := by decide +kernel
theorem dX7_scrap_18 : decode cX7_scrap 18 = .ok (.invokevirtual 84, 3) := by decide +kernel
theorem dX7_scrap_21 : decode cX7_scrap 21 = .ok (.ireturn, 1) := by decide +kernel
theorem dX7_scrap_22 : decode cX7_scrap 22 = .ok (.iload_n 3, 1) := by decide +kernel
theorem dX7_scrap_23 : decode cX7_scrap 23 = .ok (.iconst 1, 1) := by decide +kernel
theorem dX7_scrap_24 : decode cX7_scrap 24 = .ok (.if_icmp .ge 10, 3) := by decide +kernel
theorem dX7_scrap_27 : decode cX7_scrap 27 = .ok (.aload_n 0, 1) := by decide +kernel
theorem dX7_scrap_28 : decode cX7_scrap 28 = .ok (.bipush (-4), 2) := by decide +kernel
theorem dX7_scrap_30 : decode cX7_scrap 30 = .ok (.invokevirtual 84, 3) := by decide +kernel
theorem dX7_scrap_33 : decode cX7_scrap 33 = .ok (.ireturn, 1) := by decide +kernel
theorem dX7_scrap_34 : decode cX7_scrap 34 = .ok (.iload_n 3, 1) := by decide +kernel
theorem dX7_scrap_35 : decode cX7_scrap 35 = .ok (.aload_n 0, 1) := by decide +kernel
theorem dX7_scrap_36 : decode cX7_scrap 36 = .ok (.getfield 35, 3) := by decide +kernel
theorem dX7_scrap_39 : decode cX7_scrap 39 = .ok (.iload_n 1, 1) := by decide +kernel
theorem dX7_scrap_40 : decode cX7_scrap 40 = .ok (.iload_n 2, 1) := by decide +kernel
theorem dX7_scrap_41 : decode cX7_scrap 41 = .ok (.aload_n 0, 1) := by decide +kernel
theorem dX7_scrap_42 : decode cX7_scrap 42 = .ok (.getfield 60, 3) := by decide +kernel
theorem dX7_scrap_45 : decode cX7_scrap 45 = .ok (.invokevirtual 95, 3) := by decide +kernel
theorem dX7_scrap_48 : decode cX7_scrap 48 = .ok (.if_icmp .le 10, 3) := by decide +kernel
theorem dX7_scrap_51 : decode cX7_scrap 51 = .ok (.aload_n 0, 1) := by decide +kernel
theorem dX7_scrap_52 : decode cX7_scrap 52 = .ok (.bipush (-5), 2) := by decide +kernel
theorem dX7_scrap_54 : decode cX7_scrap 54 = .ok (.invokevirtual 84, 3) := by decide +kernel
theorem dX7_scrap_57 : decode cX7_scrap 57 = .ok (.ireturn, 1) := by decide +kernel
theorem dX7_scrap_58 : decode cX7_scrap 58 = .ok (.aload_n 0, 1) := by decide +kernel
theorem dX7_scrap_59 : decode cX7_scrap 59 = .ok (.getfield 35, 3) := by decide +kernel
theorem dX7_scrap_62 : decode cX7_scrap 62 = .ok (.invokevirtual 87, 3) := by decide +kernel
theorem dX7_scrap_65 : decode cX7_scrap 65 = .ok (.iconst 1, 1) := by decide +kernel
theorem dX7_scrap_66 : decode cX7_scrap 66 = .ok (.if_icmp .ge 10, 3) := by decide +kernel
theorem dX7_scrap_69 : decode cX7_scrap 69 = .ok (.aload_n 0, 1) := by decide +kernel
theorem dX7_scrap_70 : decode cX7_scrap 70 = .ok (.bipush (-6), 2) := by decide +kernel
theorem dX7_scrap_72 : decode cX7_scrap 72 = .ok (.invokevirtual 84, 3) := by decide +kernel
theorem dX7_scrap_75 : decode cX7_scrap 75 = .ok (.ireturn, 1) := by decide +kernel
theorem dX7_scrap_76 : decode cX7_scrap 76 = .ok (.aload_n 0, 1) := by decide +kernel
theorem dX7_scrap_77 : decode cX7_scrap 77 = .ok (.getfield 35, 3) := by decide +kernel
theorem dX7_scrap_80 : decode cX7_scrap 80 = .ok (.iload_n 1, 1) := by decide +kernel
theorem dX7_scrap_81 : decode cX7_scrap 81 = .ok (.iload_n 2, 1) := by decide +kernel
theorem dX7_scrap_82 : decode cX7_scrap 82 = .ok (.aload_n 0, 1) := by decide +kernel
theorem dX7_scrap_83 : decode cX7_scrap 83 = .ok (.getfield 60, 3) := by decide +kernel
theorem dX7_scrap_86 : decode cX7_scrap 86 = .ok (.iload_n 3, 1) := by decide +kernel
theorem dX7_scrap_87 : decode cX7_scrap 87 = .ok (.ineg, 1) := by decide +kernel
theorem dX7_scrap_88 : decode cX7_scrap 88 = .ok (.invokevirtual 91, 3) := by decide +kernel
theorem dX7_scrap_91 : decode cX7_scrap 91 = .ok (.aload_n 0, 1) := by decide +kernel
theorem dX7_scrap_92 : decode cX7_scrap 92 = .ok (.getfield 19, 3) := by decide +kernel
theorem dX7_scrap_95 : decode cX7_scrap 95 = .ok (.iload_n 2, 1) := by decide +kernel
theorem dX7_scrap_96 : decode cX7_scrap 96 = .ok (.dup2, 1) := by decide +kernel
theorem dX7_scrap_97 : decode cX7_scrap 97 = .ok (.iaload, 1) := by decide +kernel
theorem dX7_scrap_98 : decode cX7_scrap 98 = .ok (.iload_n 3, 1) := by decide +kernel
theorem dX7_scrap_99 : decode cX7_scrap 99 = .ok (.iadd, 1) := by decide +kernel
theorem dX7_scrap_100 : decode cX7_scrap 100 = .ok (.iastore, 1) := by decide +kernel
theorem dX7_scrap_101 : decode cX7_scrap 101 = .ok (.aload_n 0, 1) := by decide +kernel
theorem dX7_scrap_102 : decode cX7_scrap 102 = .ok (.getfield 35, 3) := by decide +kernel
theorem dX7_scrap_105 : decode cX7_scrap 105 = .ok (.iload_n 1, 1) := by decide +kernel
theorem dX7_scrap_106 : decode cX7_scrap 106 = .ok (.iload_n 2, 1) := by decide +kernel
theorem dX7_scrap_107 : decode cX7_scrap 107 = .ok (.aload_n 0, 1) := by decide +kernel
theorem dX7_scrap_108 : decode cX7_scrap 108 = .ok (.getfield 60, 3) := by decide +kernel
theorem dX7_scrap_111 : decode cX7_scrap 111 = .ok (.invokevirtual 95, 3) := by decide +kernel
theorem dX7_scrap_114 : decode cX7_scrap 114 = .ok (.ireturn, 1) := by decide +kernel
theorem dX7_tell_0 : decode cX7_tell 0 = .ok (.aload_n 0, 1) := by decide +kernel
theorem dX7_tell_1 : decode cX7_tell 1 = .ok (.iload_n 2, 1) := by decide +kernel
theorem dX7_tell_2 : decode cX7_tell 2 = .ok (.iload_n 3, 1) := by decide +kernel
theorem dX7_tell_3 : decode cX7_tell 3 = .ok (.invokevirtual 99, 3) := by decide +kernel
theorem dX7_tell_6 : decode cX7_tell 6 = .ok (.ifCond .eq 12, 3) := by decide +kernel
theorem dX7_tell_9 : decode cX7_tell 9 = .ok (.aload_n 0, 1) := by decide +kernel
theorem dX7_tell_10 : decode cX7_tell 10 = .ok (.iload 4, 2) := by decide +kernel
theorem dX7_tell_12 : decode cX7_tell 12 = .ok (.invokevirtual 81, 3) := by decide +kernel
theorem dX7_tell_15 : decode cX7_tell 15 = .ok (.ifCond .ne 9, 3) := by decide +kernel
theorem dX7_tell_18 : decode cX7_tell 18 = .ok (.aload_n 0, 1) := by decide +kernel
theorem dX7_tell_19 : decode cX7_tell 19 = .ok (.iconst (-1), 1) := by decide +kernel
theorem dX7_tell_20 : decode cX7_tell 20 = .ok (.invokevirtual 73, 3) := by decide +kernel
theorem dX7_tell_23 : decode cX7_tell 23 = .ok (.ireturn, 1) := by decide +kernel
theorem dX7_tell_24 : decode cX7_tell 24 = .ok (.iload 5, 2) := by decide +kernel
theorem dX7_tell_26 : decode cX7_tell 26 = .ok (.iconst 1, 1) := by decide +kernel
theorem dX7_tell_27 : decode cX7_tell 27 = .ok (.if_icmp .ge 10, 3) := by decide +kernel
theorem dX7_tell_30 : decode cX7_tell 30 = .ok (.aload_n 0, 1) := by decide +kernel
theorem dX7_tell_31 : decode cX7_tell 31 = .ok (.bipush (-4), 2) := by decide +kernel
theorem dX7_tell_33 : decode cX7_tell 33 = .ok (.invokevirtual 73, 3) := by decide +kernel
theorem dX7_tell_36 : decode cX7_tell 36 = .ok (.ireturn, 1) := by decide +kernel
theorem dX7_tell_37 : decode cX7_tell 37 = .ok (.iload 5, 2) := by decide +kernel
theorem dX7_tell_39 : decode cX7_tell 39 = .ok (.sipush 1000, 3) := by decide +kernel
theorem dX7_tell_42 : decode cX7_tell 42 = .ok (.if_icmp .gt 16, 3) := by decide +kernel
theorem dX7_tell_45 : decode cX7_tell 45 = .ok (.aload_n 0, 1) := by decide +kernel
theorem dX7_tell_46 : decode cX7_tell 46 = .ok (.getfield 42, 3) := by decide +kernel
theorem dX7_tell_49 : decode cX7_tell 49 = .ok (.getfield 103, 3) := by decide +kernel
theorem dX7_tell_52 : decode cX7_tell 52 = .ok (.sipush 400, 3) := by decide +kernel
theorem dX7_tell_55 : decode cX7_tell 55 = .ok (.if_icmp .lt 10, 3) := by decide +kernel
theorem dX7_tell_58 : decode cX7_tell 58 = .ok (.aload_n 0, 1) := by decide +kernel
theorem dX7_tell_59 : decode cX7_tell 59 = .ok (.bipush (-6), 2) := by decide +kernel
theorem dX7_tell_61 : decode cX7_tell 61 = .ok (.invokevirtual 73, 3) := by decide +kernel
theorem dX7_tell_64 : decode cX7_tell 64 = .ok (.ireturn, 1) := by decide +kernel
theorem dX7_tell_65 : decode cX7_tell 65 = .ok (.aload_n 0, 1) := by decide +kernel
theorem dX7_tell_66 : decode cX7_tell 66 = .ok (.getfield 42, 3) := by decide +kernel
theorem dX7_tell_69 : decode cX7_tell 69 = .ok (.getfield 103, 3) := by decide +kernel
theorem dX7_tell_72 : decode cX7_tell 72 = .ok (.istore 6, 2) := by decide +kernel
theorem dX7_tell_74 : decode cX7_tell 74 = .ok (.aload_n 0, 1) := by decide +kernel
theorem dX7_tell_75 : decode cX7_tell 75 = .ok (.getfield 42, 3) := by decide +kernel
theorem dX7_tell_78 : decode cX7_tell 78 = .ok (.new 106, 3) := by decide +kernel
theorem dX7_tell_81 : decode cX7_tell 81 = .ok (.dup, 1) := by decide +kernel
theorem dX7_tell_82 : decode cX7_tell 82 = .ok (.iload 6, 2) := by decide +kernel
theorem dX7_tell_84 : decode cX7_tell 84 = .ok (.iload_n 1, 1) := by decide +kernel
theorem dX7_tell_85 : decode cX7_tell 85 = .ok (.iload_n 2, 1) := by decide +kernel
theorem dX7_tell_86 : decode cX7_tell 86 = .ok (.iload_n 3, 1) := by decide +kernel
theorem dX7_tell_87 : decode cX7_tell 87 = .ok (.iload 4, 2) := by decide +kernel
theorem dX7_tell_89 : decode cX7_tell 89 = .ok (.iload 5, 2) := by decide +kernel
theorem dX7_tell_91 : decode cX7_tell 91 = .ok (.aload_n 0, 1) := by decide +kernel
theorem dX7_tell_92 : decode cX7_tell 92 = .ok (.getfield 60, 3) := by decide +kernel
theorem dX7_tell_95 : decode cX7_tell 95 = .ok (.invokespecial 108, 3) := by decide +kernel
theorem dX7_tell_98 : decode cX7_tell 98 = .ok (.invokevirtual 111, 3) := by decide +kernel
theorem dX7_tell_101 : decode cX7_tell 101 = .ok (.iload 6, 2) := by decide +kernel
theorem dX7_tell_103 : decode cX7_tell 103 = .ok (.ireturn, 1) := by decide +kernel
theorem dX7_drop_0 : decode cX7_drop 0 = .ok (.aload_n 0, 1) := by decide +kernel
theorem dX7_drop_1 : decode cX7_drop 1 = .ok (.getfield 42, 3) := by decide +kernel
theorem dX7_drop_4 : decode cX7_drop 4 = .ok (.iload_n 1, 1) := by decide +kernel
theorem dX7_drop_5 : decode cX7_drop 5 = .ok (.invokevirtual 115, 3) := by decide +kernel
theorem dX7_drop_8 : decode cX7_drop 8 = .ok (.astore_n 2, 1) := by decide +kernel
theorem dX7_drop_9 : decode cX7_drop 9 = .ok (.aload_n 2, 1) := by decide +kernel
theorem dX7_drop_10 : decode cX7_drop 10 = .ok (.ifnonnull 9, 3) := by decide +kernel
theorem dX7_drop_13 : decode cX7_drop 13 = .ok (.aload_n 0, 1) := by decide +kernel
theorem dX7_drop_14 : decode cX7_drop 14 = .ok (.iconst (-1), 1) := by decide +kernel
theorem dX7_drop_15 : decode cX7_drop 15 = .ok (.invokevirtual 73, 3) := by decide +kernel
theorem dX7_drop_18 : decode cX7_drop 18 = .ok (.ireturn, 1) := by decide +kernel
theorem dX7_drop_19 : decode cX7_drop 19 = .ok (.aload_n 2, 1) := by decide +kernel
theorem dX7_drop_20 : decode cX7_drop 20 = .ok (.getfield 119, 3) := by decide +kernel
theorem dX7_drop_23 : decode cX7_drop 23 = .ok (.ifCond .eq 10, 3) := by decide +kernel
theorem dX7_drop_26 : decode cX7_drop 26 = .ok (.aload_n 0, 1) := by decide +kernel
theorem dX7_drop_27 : decode cX7_drop 27 = .ok (.bipush (-3), 2) := by decide +kernel
theorem dX7_drop_29 : decode cX7_drop 29 = .ok (.invokevirtual 73, 3) := by decide +kernel
theorem dX7_drop_32 : decode cX7_drop 32 = .ok (.ireturn, 1) := by decide +kernel
theorem dX7_drop_33 : decode cX7_drop 33 = .ok (.aload_n 2, 1) := by decide +kernel
theorem dX7_drop_34 : decode cX7_drop 34 = .ok (.iconst 2, 1) := by decide +kernel
theorem dX7_drop_35 : decode cX7_drop 35 = .ok (.putfield 119, 3) := by decide +kernel
theorem dX7_drop_38 : decode cX7_drop 38 = .ok (.iconst 1, 1) := by decide +kernel
theorem dX7_drop_39 : decode cX7_drop 39 = .ok (.ireturn, 1) := by decide +kernel
theorem dX7_rule_0 : decode cX7_rule 0 = .ok (.iload_n 1, 1) := by decide +kernel
theorem dX7_rule_1 : decode cX7_rule 1 = .ok (.ifCond .lt 8, 3) := by decide +kernel
theorem dX7_rule_4 : decode cX7_rule 4 = .ok (.iload_n 1, 1) := by decide +kernel
theorem dX7_rule_5 : decode cX7_rule 5 = .ok (.iconst 3, 1) := by decide +kernel
theorem dX7_rule_6 : decode cX7_rule 6 = .ok (.if_icmp .le 10, 3) := by decide +kernel
theorem dX7_rule_9 : decode cX7_rule 9 = .ok (.aload_n 0, 1) := by decide +kernel
theorem dX7_rule_10 : decode cX7_rule 10 = .ok (.bipush (-2), 2) := by decide +kernel
theorem dX7_rule_12 : decode cX7_rule 12 = .ok (.invokevirtual 73, 3) := by decide +kernel
theorem dX7_rule_15 : decode cX7_rule 15 = .ok (.ireturn, 1) := by decide +kernel
theorem dX7_rule_16 : decode cX7_rule 16 = .ok (.aload_n 0, 1) := by decide +kernel
theorem dX7_rule_17 : decode cX7_rule 17 = .ok (.getfield 70, 3) := by decide +kernel
theorem dX7_rule_20 : decode cX7_rule 20 = .ok (.istore_n 2, 1) := by decide +kernel
theorem dX7_rule_21 : decode cX7_rule 21 = .ok (.aload_n 0, 1) := by decide +kernel
theorem dX7_rule_22 : decode cX7_rule 22 = .ok (.iload_n 1, 1) := by decide +kernel
theorem dX7_rule_23 : decode cX7_rule 23 = .ok (.putfield 70, 3) := by decide +kernel
theorem dX7_rule_26 : decode cX7_rule 26 = .ok (.iload_n 2, 1) := by decide +kernel
theorem dX7_rule_27 : decode cX7_rule 27 = .ok (.ireturn, 1) := by decide +kernel
theorem dX7_pair_0 : decode cX7_pair 0 = .ok (.aload_n 0, 1) := by decide +kernel
theorem dX7_pair_1 : decode cX7_pair 1 = .ok (.getfield 35, 3) := by decide +kernel
theorem dX7_pair_4 : decode cX7_pair 4 = .ok (.getfield 122, 3) := by decide +kernel
theorem dX7_pair_7 : decode cX7_pair 7 = .ok (.sipush 1900, 3) := by decide +kernel
theorem dX7_pair_10 : decode cX7_pair 10 = .ok (.if_icmp .le 10, 3) := by decide +kernel
theorem dX7_pair_13 : decode cX7_pair 13 = .ok (.aload_n 0, 1) := by decide +kernel
theorem dX7_pair_14 : decode cX7_pair 14 = .ok (.bipush (-6), 2) := by decide +kernel
theorem dX7_pair_16 : decode cX7_pair 16 = .ok (.invokevirtual 73, 3) := by decide +kernel
theorem dX7_pair_19 : decode cX7_pair 19 = .ok (.ireturn, 1) := by decide +kernel
theorem dX7_pair_20 : decode cX7_pair 20 = .ok (.aload_n 0, 1) := by decide +kernel
theorem dX7_pair_21 : decode cX7_pair 21 = .ok (.getfield 42, 3) := by decide +kernel
theorem dX7_pair_24 : decode cX7_pair 24 = .ok (.getfield 125, 3) := by decide +kernel
theorem dX7_pair_27 : decode cX7_pair 27 = .ok (.istore_n 1, 1) := by decide +kernel
theorem dX7_pair_28 : decode cX7_pair 28 = .ok (.aload_n 0, 1) := by decide +kernel
theorem dX7_pair_29 : decode cX7_pair 29 = .ok (.getfield 42, 3) := by decide +kernel
theorem dX7_pair_32 : decode cX7_pair 32 = .ok (.aload_n 0, 1) := by decide +kernel
theorem dX7_pair_33 : decode cX7_pair 33 = .ok (.getfield 70, 3) := by decide +kernel
theorem dX7_pair_36 : decode cX7_pair 36 = .ok (.invokevirtual 128, 3) := by decide +kernel
theorem dX7_pair_39 : decode cX7_pair 39 = .ok (.istore_n 2, 1) := by decide +kernel
theorem dX7_pair_40 : decode cX7_pair 40 = .ok (.iload_n 1, 1) := by decide +kernel
theorem dX7_pair_41 : decode cX7_pair 41 = .ok (.istore_n 3, 1) := by decide +kernel
theorem dX7_pair_42 : decode cX7_pair 42 = .ok (.iload_n 3, 1) := by decide +kernel
theorem dX7_pair_43 : decode cX7_pair 43 = .ok (.iload_n 1, 1) := by decide +kernel
theorem dX7_pair_44 : decode cX7_pair 44 = .ok (.iload_n 2, 1) := by decide +kernel
theorem dX7_pair_45 : decode cX7_pair 45 = .ok (.iadd, 1) := by decide +kernel
theorem dX7_pair_46 : decode cX7_pair 46 = .ok (.if_icmp .ge 35, 3) := by decide +kernel
theorem dX7_pair_49 : decode cX7_pair 49 = .ok (.aload_n 0, 1) := by decide +kernel
theorem dX7_pair_50 : decode cX7_pair 50 = .ok (.getfield 42, 3) := by decide +kernel
theorem dX7_pair_53 : decode cX7_pair 53 = .ok (.iload_n 3, 1) := by decide +kernel
theorem dX7_pair_54 : decode cX7_pair 54 = .ok (.invokevirtual 131, 3) := by decide +kernel
theorem dX7_pair_57 : decode cX7_pair 57 = .ok (.astore 4, 2) := by decide +kernel
theorem dX7_pair_59 : decode cX7_pair 59 = .ok (.aload 4, 2) := by decide +kernel
theorem dX7_pair_61 : decode cX7_pair 61 = .ok (.ifnull 14, 3) := by decide +kernel
theorem dX7_pair_64 : decode cX7_pair 64 = .ok (.aload_n 0, 1) := by decide +kernel
theorem dX7_pair_65 : decode cX7_pair 65 = .ok (.aload 4, 2) := by decide +kernel
theorem dX7_pair_67 : decode cX7_pair 67 = .ok (.aload 4, 2) := by decide +kernel
theorem dX7_pair_69 : decode cX7_pair 69 = .ok (.getfield 135, 3) := by decide +kernel
theorem dX7_pair_72 : decode cX7_pair 72 = .ok (.invokevirtual 140, 3) := by decide +kernel
theorem dX7_pair_75 : decode cX7_pair 75 = .ok (.iinc 3 1, 3) := by decide +kernel
theorem dX7_pair_78 : decode cX7_pair 78 = .ok (.goto (-36), 3) := by decide +kernel
theorem dX7_pair_81 : decode cX7_pair 81 = .ok (.iload_n 2, 1) := by decide +kernel
theorem dX7_pair_82 : decode cX7_pair 82 = .ok (.ireturn, 1) := by decide +kernel
theorem dX7_judge_0 : decode cX7_judge 0 = .ok (.aload_n 0, 1) := by decide +kernel
theorem dX7_judge_1 : decode cX7_judge 1 = .ok (.getfield 42, 3) := by decide +kernel
theorem dX7_judge_4 : decode cX7_judge 4 = .ok (.iload_n 1, 1) := by decide +kernel
theorem dX7_judge_5 : decode cX7_judge 5 = .ok (.invokevirtual 131, 3) := by decide +kernel
theorem dX7_judge_8 : decode cX7_judge 8 = .ok (.astore_n 3, 1) := by decide +kernel
theorem dX7_judge_9 : decode cX7_judge 9 = .ok (.aload_n 3, 1) := by decide +kernel
theorem dX7_judge_10 : decode cX7_judge 10 = .ok (.ifnonnull 9, 3) := by decide +kernel
theorem dX7_judge_13 : decode cX7_judge 13 = .ok (.aload_n 0, 1) := by decide +kernel
theorem dX7_judge_14 : decode cX7_judge 14 = .ok (.iconst (-1), 1) := by decide +kernel
theorem dX7_judge_15 : decode cX7_judge 15 = .ok (.invokevirtual 73, 3) := by decide +kernel
theorem dX7_judge_18 : decode cX7_judge 18 = .ok (.ireturn, 1) := by decide +kernel
theorem dX7_judge_19 : decode cX7_judge 19 = .ok (.aload_n 3, 1) := by decide +kernel
theorem dX7_judge_20 : decode cX7_judge 20 = .ok (.invokevirtual 144, 3) := by decide +kernel
theorem dX7_judge_23 : decode cX7_judge 23 = .ok (.ifCond .ne 10, 3) := by decide +kernel
theorem dX7_judge_26 : decode cX7_judge 26 = .ok (.aload_n 0, 1) := by decide +kernel
theorem dX7_judge_27 : decode cX7_judge 27 = .ok (.bipush (-3), 2) := by decide +kernel
theorem dX7_judge_29 : decode cX7_judge 29 = .ok (.invokevirtual 73, 3) := by decide +kernel
theorem dX7_judge_32 : decode cX7_judge 32 = .ok (.ireturn, 1) := by decide +kernel
theorem dX7_judge_33 : decode cX7_judge 33 = .ok (.iload_n 2, 1) := by decide +kernel
theorem dX7_judge_34 : decode cX7_judge 34 = .ok (.ifCond .ge 10, 3) := by decide +kernel
theorem dX7_judge_37 : decode cX7_judge 37 = .ok (.aload_n 0, 1) := by decide +kernel
theorem dX7_judge_38 : decode cX7_judge 38 = .ok (.bipush (-4), 2) := by decide +kernel
theorem dX7_judge_40 : decode cX7_judge 40 = .ok (.invokevirtual 73, 3) := by decide +kernel
theorem dX7_judge_43 : decode cX7_judge 43 = .ok (.ireturn, 1) := by decide +kernel
theorem dX7_judge_44 : decode cX7_judge 44 = .ok (.iload_n 2, 1) := by decide +kernel
theorem dX7_judge_45 : decode cX7_judge 45 = .ok (.sipush 1000, 3) := by decide +kernel
theorem dX7_judge_48 : decode cX7_judge 48 = .ok (.if_icmp .gt 14, 3) := by decide +kernel
theorem dX7_judge_51 : decode cX7_judge 51 = .ok (.aload_n 0, 1) := by decide +kernel
theorem dX7_judge_52 : decode cX7_judge 52 = .ok (.getfield 35, 3) := by decide +kernel
theorem dX7_judge_55 : decode cX7_judge 55 = .ok (.invokevirtual 87, 3) := by decide +kernel
theorem dX7_judge_58 : decode cX7_judge 58 = .ok (.iconst 2, 1) := by decide +kernel
theorem dX7_judge_59 : decode cX7_judge 59 = .ok (.if_icmp .ge 10, 3) := by decide +kernel
theorem dX7_judge_62 : decode cX7_judge 62 = .ok (.aload_n 0, 1) := by decide +kernel
theorem dX7_judge_63 : decode cX7_judge 63 = .ok (.bipush (-6), 2) := by decide +kernel
theorem dX7_judge_65 : decode cX7_judge 65 = .ok (.invokevirtual 73, 3) := by decide +kernel
theorem dX7_judge_68 : decode cX7_judge 68 = .ok (.ireturn, 1) := by decide +kernel
theorem dX7_judge_69 : decode cX7_judge 69 = .ok (.aload_n 3, 1) := by decide +kernel
theorem dX7_judge_70 : decode cX7_judge 70 = .ok (.getfield 135, 3) := by decide +kernel
theorem dX7_judge_73 : decode cX7_judge 73 = .ok (.istore 4, 2) := by decide +kernel
theorem dX7_judge_75 : decode cX7_judge 75 = .ok (.iload_n 2, 1) := by decide +kernel
theorem dX7_judge_76 : decode cX7_judge 76 = .ok (.iload 4, 2) := by decide +kernel
theorem dX7_judge_78 : decode cX7_judge 78 = .ok (.if_icmp .eq 12, 3) := by decide +kernel
theorem dX7_judge_81 : decode cX7_judge 81 = .ok (.aload_n 0, 1) := by decide +kernel
theorem dX7_judge_82 : decode cX7_judge 82 = .ok (.aload_n 3, 1) := by decide +kernel
theorem dX7_judge_83 : decode cX7_judge 83 = .ok (.iload_n 2, 1) := by decide +kernel
theorem dX7_judge_84 : decode cX7_judge 84 = .ok (.iload 4, 2) := by decide +kernel
theorem dX7_judge_86 : decode cX7_judge 86 = .ok (.isub, 1) := by decide +kernel
theorem dX7_judge_87 : decode cX7_judge 87 = .ok (.invokevirtual 140, 3) := by decide +kernel
theorem dX7_judge_90 : decode cX7_judge 90 = .ok (.aload_n 3, 1) := by decide +kernel
theorem dX7_judge_91 : decode cX7_judge 91 = .ok (.iload_n 2, 1) := by decide +kernel
theorem dX7_judge_92 : decode cX7_judge 92 = .ok (.putfield 135, 3) := by decide +kernel
theorem dX7_judge_95 : decode cX7_judge 95 = .ok (.aload_n 3, 1) := by decide +kernel
theorem dX7_judge_96 : decode cX7_judge 96 = .ok (.iconst 1, 1) := by decide +kernel
theorem dX7_judge_97 : decode cX7_judge 97 = .ok (.putfield 148, 3) := by decide +kernel
theorem dX7_judge_100 : decode cX7_judge 100 = .ok (.iload 4, 2) := by decide +kernel
theorem dX7_judge_102 : decode cX7_judge 102 = .ok (.ireturn, 1) := by decide +kernel
theorem dX7_found_0 : decode cX7_found 0 = .ok (.aload_n 0, 1) := by decide +kernel
theorem dX7_found_1 : decode cX7_found 1 = .ok (.iload_n 1, 1) := by decide +kernel
theorem dX7_found_2 : decode cX7_found 2 = .ok (.invokevirtual 77, 3) := by decide +kernel
theorem dX7_found_5 : decode cX7_found 5 = .ok (.ifCond .eq 11, 3) := by decide +kernel
theorem dX7_found_8 : decode cX7_found 8 = .ok (.aload_n 0, 1) := by decide +kernel
theorem dX7_found_9 : decode cX7_found 9 = .ok (.iload_n 2, 1) := by decide +kernel
theorem dX7_found_10 : decode cX7_found 10 = .ok (.invokevirtual 81, 3) := by decide +kernel
theorem dX7_found_13 : decode cX7_found 13 = .ok (.ifCond .ne 9, 3) := by decide +kernel
theorem dX7_found_16 : decode cX7_found 16 = .ok (.aload_n 0, 1) := by decide +kernel
theorem dX7_found_17 : decode cX7_found 17 = .ok (.iconst (-1), 1) := by decide +kernel
theorem dX7_found_18 : decode cX7_found 18 = .ok (.invokevirtual 84, 3) := by decide +kernel
theorem dX7_found_21 : decode cX7_found 21 = .ok (.ireturn, 1) := by decide +kernel
theorem dX7_found_22 : decode cX7_found 22 = .ok (.iload_n 3, 1) := by decide +kernel
theorem dX7_found_23 : decode cX7_found 23 = .ok (.ifCond .ge 10, 3) := by decide +kernel
theorem dX7_found_26 : decode cX7_found 26 = .ok (.aload_n 0, 1) := by decide +kernel
theorem dX7_found_27 : decode cX7_found 27 = .ok (.bipush (-4), 2) := by decide +kernel
theorem dX7_found_29 : decode cX7_found 29 = .ok (.invokevirtual 84, 3) := by decide +kernel
theorem dX7_found_32 : decode cX7_found 32 = .ok (.ireturn, 1) := by decide +kernel
theorem dX7_found_33 : decode cX7_found 33 = .ok (.iload_n 3, 1) := by decide +kernel
theorem dX7_found_34 : decode cX7_found 34 = .ok (.ldc 152, 2) := by decide +kernel
theorem dX7_found_36 : decode cX7_found 36 = .ok (.if_icmp .gt 14, 3) := by decide +kernel
theorem dX7_found_39 : decode cX7_found 39 = .ok (.aload_n 0, 1) := by decide +kernel
theorem dX7_found_40 : decode cX7_found 40 = .ok (.getfield 35, 3) := by decide +kernel
theorem dX7_found_43 : decode cX7_found 43 = .ok (.invokevirtual 87, 3) := by decide +kernel
theorem dX7_found_46 : decode cX7_found 46 = .ok (.iconst 1, 1) := by decide +kernel
theorem dX7_found_47 : decode cX7_found 47 = .ok (.if_icmp .ge 10, 3) := by decide +kernel
theorem dX7_found_50 : decode cX7_found 50 = .ok (.aload_n 0, 1) := by decide +kernel
theorem dX7_found_51 : decode cX7_found 51 = .ok (.bipush (-6), 2) := by decide +kernel
theorem dX7_found_53 : decode cX7_found 53 = .ok (.invokevirtual 84, 3) := by decide +kernel
theorem dX7_found_56 : decode cX7_found 56 = .ok (.ireturn, 1) := by decide +kernel
theorem dX7_found_57 : decode cX7_found 57 = .ok (.aload_n 0, 1) := by decide +kernel
theorem dX7_found_58 : decode cX7_found 58 = .ok (.getfield 35, 3) := by decide +kernel
theorem dX7_found_61 : decode cX7_found 61 = .ok (.iload_n 1, 1) := by decide +kernel
theorem dX7_found_62 : decode cX7_found 62 = .ok (.iload_n 2, 1) := by decide +kernel
theorem dX7_found_63 : decode cX7_found 63 = .ok (.aload_n 0, 1) := by decide +kernel
theorem dX7_found_64 : decode cX7_found 64 = .ok (.getfield 60, 3) := by decide +kernel
theorem dX7_found_67 : decode cX7_found 67 = .ok (.invokevirtual 95, 3) := by decide +kernel
theorem dX7_found_70 : decode cX7_found 70 = .ok (.istore 4, 2) := by decide +kernel
theorem dX7_found_72 : decode cX7_found 72 = .ok (.iload 4, 2) := by decide +kernel
theorem dX7_found_74 : decode cX7_found 74 = .ok (.iload_n 3, 1) := by decide +kernel
theorem dX7_found_75 : decode cX7_found 75 = .ok (.if_icmp .eq 38, 3) := by decide +kernel
theorem dX7_found_78 : decode cX7_found 78 = .ok (.aload_n 0, 1) := by decide +kernel
theorem dX7_found_79 : decode cX7_found 79 = .ok (.getfield 35, 3) := by decide +kernel
theorem dX7_found_82 : decode cX7_found 82 = .ok (.iload_n 1, 1) := by decide +kernel
theorem dX7_found_83 : decode cX7_found 83 = .ok (.iload_n 2, 1) := by decide +kernel
theorem dX7_found_84 : decode cX7_found 84 = .ok (.aload_n 0, 1) := by decide +kernel
theorem dX7_found_85 : decode cX7_found 85 = .ok (.getfield 60, 3) := by decide +kernel
theorem dX7_found_88 : decode cX7_found 88 = .ok (.iload_n 3, 1) := by decide +kernel
theorem dX7_found_89 : decode cX7_found 89 = .ok (.iload 4, 2) := by decide +kernel
theorem dX7_found_91 : decode cX7_found 91 = .ok (.isub, 1) := by decide +kernel
theorem dX7_found_92 : decode cX7_found 92 = .ok (.invokevirtual 91, 3) := by decide +kernel
theorem dX7_found_95 : decode cX7_found 95 = .ok (.aload_n 0, 1) := by decide +kernel
theorem dX7_found_96 : decode cX7_found 96 = .ok (.getfield 22, 3) := by decide +kernel
theorem dX7_found_99 : decode cX7_found 99 = .ok (.iload_n 1, 1) := by decide +kernel
theorem dX7_found_100 : decode cX7_found 100 = .ok (.bipush 6, 2) := by decide +kernel
theorem dX7_found_102 : decode cX7_found 102 = .ok (.imul, 1) := by decide +kernel
theorem dX7_found_103 : decode cX7_found 103 = .ok (.iload_n 2, 1) := by decide +kernel
theorem dX7_found_104 : decode cX7_found 104 = .ok (.iadd, 1) := by decide +kernel
theorem dX7_found_105 : decode cX7_found 105 = .ok (.dup2, 1) := by decide +kernel
theorem dX7_found_106 : decode cX7_found 106 = .ok (.iaload, 1) := by decide +kernel
theorem dX7_found_107 : decode cX7_found 107 = .ok (.iload 4, 2) := by decide +kernel
theorem dX7_found_109 : decode cX7_found 109 = .ok (.iload_n 3, 1) := by decide +kernel
theorem dX7_found_110 : decode cX7_found 110 = .ok (.isub, 1) := by decide +kernel
theorem dX7_found_111 : decode cX7_found 111 = .ok (.iadd, 1) := by decide +kernel
theorem dX7_found_112 : decode cX7_found 112 = .ok (.iastore, 1) := by decide +kernel
theorem dX7_found_113 : decode cX7_found 113 = .ok (.iload 4, 2) := by decide +kernel
theorem dX7_found_115 : decode cX7_found 115 = .ok (.ireturn, 1) := by decide +kernel
theorem dX7_account_0 : decode cX7_account 0 = .ok (.aload_n 0, 1) := by decide +kernel
theorem dX7_account_1 : decode cX7_account 1 = .ok (.iload_n 1, 1) := by decide +kernel
theorem dX7_account_2 : decode cX7_account 2 = .ok (.invokevirtual 77, 3) := by decide +kernel
theorem dX7_account_5 : decode cX7_account 5 = .ok (.ifCond .eq 11, 3) := by decide +kernel
theorem dX7_account_8 : decode cX7_account 8 = .ok (.aload_n 0, 1) := by decide +kernel
theorem dX7_account_9 : decode cX7_account 9 = .ok (.iload_n 2, 1) := by decide +kernel
theorem dX7_account_10 : decode cX7_account 10 = .ok (.invokevirtual 81, 3) := by decide +kernel
theorem dX7_account_13 : decode cX7_account 13 = .ok (.ifCond .ne 9, 3) := by decide +kernel
theorem dX7_account_16 : decode cX7_account 16 = .ok (.aload_n 0, 1) := by decide +kernel
theorem dX7_account_17 : decode cX7_account 17 = .ok (.iconst (-1), 1) := by decide +kernel
theorem dX7_account_18 : decode cX7_account 18 = .ok (.invokevirtual 84, 3) := by decide +kernel
theorem dX7_account_21 : decode cX7_account 21 = .ok (.ireturn, 1) := by decide +kernel
theorem dX7_account_22 : decode cX7_account 22 = .ok (.iload_n 3, 1) := by decide +kernel
theorem dX7_account_23 : decode cX7_account 23 = .ok (.ifCond .ge 10, 3) := by decide +kernel
theorem dX7_account_26 : decode cX7_account 26 = .ok (.aload_n 0, 1) := by decide +kernel
theorem dX7_account_27 : decode cX7_account 27 = .ok (.bipush (-4), 2) := by decide +kernel
theorem dX7_account_29 : decode cX7_account 29 = .ok (.invokevirtual 84, 3) := by decide +kernel
theorem dX7_account_32 : decode cX7_account 32 = .ok (.ireturn, 1) := by decide +kernel
theorem dX7_account_33 : decode cX7_account 33 = .ok (.iload_n 3, 1) := by decide +kernel
theorem dX7_account_34 : decode cX7_account 34 = .ok (.sipush 600, 3) := by decide +kernel
theorem dX7_account_37 : decode cX7_account 37 = .ok (.if_icmp .lt 10, 3) := by decide +kernel
theorem dX7_account_40 : decode cX7_account 40 = .ok (.aload_n 0, 1) := by decide +kernel
theorem dX7_account_41 : decode cX7_account 41 = .ok (.bipush (-6), 2) := by decide +kernel
theorem dX7_account_43 : decode cX7_account 43 = .ok (.invokevirtual 84, 3) := by decide +kernel
theorem dX7_account_46 : decode cX7_account 46 = .ok (.ireturn, 1) := by decide +kernel
theorem dX7_account_47 : decode cX7_account 47 = .ok (.aload_n 0, 1) := by decide +kernel
theorem dX7_account_48 : decode cX7_account 48 = .ok (.getfield 35, 3) := by decide +kernel
theorem dX7_account_51 : decode cX7_account 51 = .ok (.iload_n 1, 1) := by decide +kernel
theorem dX7_account_52 : decode cX7_account 52 = .ok (.iload_n 2, 1) := by decide +kernel
theorem dX7_account_53 : decode cX7_account 53 = .ok (.iload_n 3, 1) := by decide +kernel
theorem dX7_account_54 : decode cX7_account 54 = .ok (.invokevirtual 95, 3) := by decide +kernel
theorem dX7_account_57 : decode cX7_account 57 = .ok (.ireturn, 1) := by decide +kernel
theorem dX7_lost_0 : decode cX7_lost 0 = .ok (.aload_n 0, 1) := by decide +kernel
theorem dX7_lost_1 : decode cX7_lost 1 = .ok (.iload_n 1, 1) := by decide +kernel
theorem dX7_lost_2 : decode cX7_lost 2 = .ok (.invokevirtual 77, 3) := by decide +kernel
theorem dX7_lost_5 : decode cX7_lost 5 = .ok (.ifCond .eq 11, 3) := by decide +kernel
theorem dX7_lost_8 : decode cX7_lost 8 = .ok (.aload_n 0, 1) := by decide +kernel
theorem dX7_lost_9 : decode cX7_lost 9 = .ok (.iload_n 2, 1) := by decide +kernel
theorem dX7_lost_10 : decode cX7_lost 10 = .ok (.invokevirtual 81, 3) := by decide +kernel
theorem dX7_lost_13 : decode cX7_lost 13 = .ok (.ifCond .ne 9, 3) := by decide +kernel
theorem dX7_lost_16 : decode cX7_lost 16 = .ok (.aload_n 0, 1) := by decide +kernel
theorem dX7_lost_17 : decode cX7_lost 17 = .ok (.iconst (-1), 1) := by decide +kernel
theorem dX7_lost_18 : decode cX7_lost 18 = .ok (.invokevirtual 84, 3) := by decide +kernel
theorem dX7_lost_21 : decode cX7_lost 21 = .ok (.ireturn, 1) := by decide +kernel
theorem dX7_lost_22 : decode cX7_lost 22 = .ok (.aload_n 0, 1) := by decide +kernel
theorem dX7_lost_23 : decode cX7_lost 23 = .ok (.getfield 22, 3) := by decide +kernel
theorem dX7_lost_26 : decode cX7_lost 26 = .ok (.iload_n 1, 1) := by decide +kernel
theorem dX7_lost_27 : decode cX7_lost 27 = .ok (.bipush 6, 2) := by decide +kernel
theorem dX7_lost_29 : decode cX7_lost 29 = .ok (.imul, 1) := by decide +kernel
theorem dX7_lost_30 : decode cX7_lost 30 = .ok (.iload_n 2, 1) := by decide +kernel
theorem dX7_lost_31 : decode cX7_lost 31 = .ok (.iadd, 1) := by decide +kernel
theorem dX7_lost_32 : decode cX7_lost 32 = .ok (.iaload, 1) := by decide +kernel
theorem dX7_lost_33 : decode cX7_lost 33 = .ok (.ireturn, 1) := by decide +kernel
theorem dX7_turns_0 : decode cX7_turns 0 = .ok (.aload_n 0, 1) := by decide +kernel
theorem dX7_turns_1 : decode cX7_turns 1 = .ok (.iload_n 1, 1) := by decide +kernel
theorem dX7_turns_2 : decode cX7_turns 2 = .ok (.invokevirtual 77, 3) := by decide +kernel
theorem dX7_turns_5 : decode cX7_turns 5 = .ok (.ifCond .eq 11, 3) := by decide +kernel
theorem dX7_turns_8 : decode cX7_turns 8 = .ok (.aload_n 0, 1) := by decide +kernel
theorem dX7_turns_9 : decode cX7_turns 9 = .ok (.iload_n 2, 1) := by decide +kernel
theorem dX7_turns_10 : decode cX7_turns 10 = .ok (.invokevirtual 81, 3) := by decide +kernel
theorem dX7_turns_13 : decode cX7_turns 13 = .ok (.ifCond .ne 9, 3) := by decide +kernel
theorem dX7_turns_16 : decode cX7_turns 16 = .ok (.aload_n 0, 1) := by decide +kernel
theorem dX7_turns_17 : decode cX7_turns 17 = .ok (.iconst (-1), 1) := by decide +kernel
theorem dX7_turns_18 : decode cX7_turns 18 = .ok (.invokevirtual 73, 3) := by decide +kernel
theorem dX7_turns_21 : decode cX7_turns 21 = .ok (.ireturn, 1) := by decide +kernel
theorem dX7_turns_22 : decode cX7_turns 22 = .ok (.aload_n 0, 1) := by decide +kernel
theorem dX7_turns_23 : decode cX7_turns 23 = .ok (.getfield 42, 3) := by decide +kernel
theorem dX7_turns_26 : decode cX7_turns 26 = .ok (.iload_n 1, 1) := by decide +kernel
theorem dX7_turns_27 : decode cX7_turns 27 = .ok (.iload_n 2, 1) := by decide +kernel
theorem dX7_turns_28 : decode cX7_turns 28 = .ok (.invokevirtual 153, 3) := by decide +kernel
theorem dX7_turns_31 : decode cX7_turns 31 = .ok (.ireturn, 1) := by decide +kernel
theorem dX7_share_0 : decode cX7_share 0 = .ok (.aload_n 0, 1) := by decide +kernel
theorem dX7_share_1 : decode cX7_share 1 = .ok (.iload_n 1, 1) := by decide +kernel
theorem dX7_share_2 : decode cX7_share 2 = .ok (.invokevirtual 77, 3) := by decide +kernel
theorem dX7_share_5 : decode cX7_share 5 = .ok (.ifCond .eq 11, 3) := by decide +kernel
theorem dX7_share_8 : decode cX7_share 8 = .ok (.aload_n 0, 1) := by decide +kernel
theorem dX7_share_9 : decode cX7_share 9 = .ok (.iload_n 2, 1) := by decide +kernel
theorem dX7_share_10 : decode cX7_share 10 = .ok (.invokevirtual 81, 3) := by decide +kernel
theorem dX7_share_13 : decode cX7_share 13 = .ok (.ifCond .ne 9, 3) := by decide +kernel
theorem dX7_share_16 : decode cX7_share 16 = .ok (.aload_n 0, 1) := by decide +kernel
theorem dX7_share_17 : decode cX7_share 17 = .ok (.iconst (-1), 1) := by decide +kernel
theorem dX7_share_18 : decode cX7_share 18 = .ok (.invokevirtual 73, 3) := by decide +kernel
theorem dX7_share_21 : decode cX7_share 21 = .ok (.ireturn, 1) := by decide +kernel
theorem dX7_share_22 : decode cX7_share 22 = .ok (.aload_n 0, 1) := by decide +kernel
theorem dX7_share_23 : decode cX7_share 23 = .ok (.iload_n 1, 1) := by decide +kernel
theorem dX7_share_24 : decode cX7_share 24 = .ok (.iload_n 2, 1) := by decide +kernel
theorem dX7_share_25 : decode cX7_share 25 = .ok (.aload_n 0, 1) := by decide +kernel
theorem dX7_share_26 : decode cX7_share 26 = .ok (.iload_n 2, 1) := by decide +kernel
theorem dX7_share_27 : decode cX7_share 27 = .ok (.invokevirtual 157, 3) := by decide +kernel
theorem dX7_share_30 : decode cX7_share 30 = .ok (.i2l, 1) := by decide +kernel
theorem dX7_share_31 : decode cX7_share 31 = .ok (.aload_n 0, 1) := by decide +kernel
theorem dX7_share_32 : decode cX7_share 32 = .ok (.getfield 9, 3) := by decide +kernel
theorem dX7_share_35 : decode cX7_share 35 = .ok (.iload_n 2, 1) := by decide +kernel
theorem dX7_share_36 : decode cX7_share 36 = .ok (.iaload, 1) := by decide +kernel
theorem dX7_share_37 : decode cX7_share 37 = .ok (.i2l, 1) := by decide +kernel
theorem dX7_share_38 : decode cX7_share 38 = .ok (.lmul, 1) := by decide +kernel
theorem dX7_share_39 : decode cX7_share 39 = .ok (.invokevirtual 160, 3) := by decide +kernel
theorem dX7_share_42 : decode cX7_share 42 = .ok (.ireturn, 1) := by decide +kernel
theorem dX7_fees_0 : decode cX7_fees 0 = .ok (.aload_n 0, 1) := by decide +kernel
theorem dX7_fees_1 : decode cX7_fees 1 = .ok (.iload_n 1, 1) := by decide +kernel
theorem dX7_fees_2 : decode cX7_fees 2 = .ok (.iload_n 2, 1) := by decide +kernel
theorem dX7_fees_3 : decode cX7_fees 3 = .ok (.invokevirtual 164, 3) := by decide +kernel
theorem dX7_fees_6 : decode cX7_fees 6 = .ok (.istore_n 3, 1) := by decide +kernel
theorem dX7_fees_7 : decode cX7_fees 7 = .ok (.iload_n 3, 1) := by decide +kernel
theorem dX7_fees_8 : decode cX7_fees 8 = .ok (.ifCond .eq 10, 3) := by decide +kernel
theorem dX7_fees_11 : decode cX7_fees 11 = .ok (.aload_n 0, 1) := by decide +kernel
theorem dX7_fees_12 : decode cX7_fees 12 = .ok (.iload_n 3, 1) := by decide +kernel
theorem dX7_fees_13 : decode cX7_fees 13 = .ok (.invokevirtual 73, 3) := by decide +kernel
theorem dX7_fees_16 : decode cX7_fees 16 = .ok (.i2l, 1) := by decide +kernel
theorem dX7_fees_17 : decode cX7_fees 17 = .ok (.lreturn, 1) := by decide +kernel
theorem dX7_fees_18 : decode cX7_fees 18 = .ok (.aload_n 0, 1) := by decide +kernel
theorem dX7_fees_19 : decode cX7_fees 19 = .ok (.getfield 35, 3) := by decide +kernel
theorem dX7_fees_22 : decode cX7_fees 22 = .ok (.iload_n 1, 1) := by decide +kernel
theorem dX7_fees_23 : decode cX7_fees 23 = .ok (.iload_n 2, 1) := by decide +kernel
theorem dX7_fees_24 : decode cX7_fees 24 = .ok (.aload_n 0, 1) := by decide +kernel
theorem dX7_fees_25 : decode cX7_fees 25 = .ok (.getfield 13, 3) := by decide +kernel
theorem dX7_fees_28 : decode cX7_fees 28 = .ok (.invokevirtual 167, 3) := by decide +kernel
theorem dX7_fees_31 : decode cX7_fees 31 = .ok (.lreturn, 1) := by decide +kernel
theorem dX7_close_0 : decode cX7_close 0 = .ok (.aload_n 0, 1) := by decide +kernel
theorem dX7_close_1 : decode cX7_close 1 = .ok (.getfield 35, 3) := by decide +kernel
theorem dX7_close_4 : decode cX7_close 4 = .ok (.getfield 171, 3) := by decide +kernel
theorem dX7_close_7 : decode cX7_close 7 = .ok (.istore_n 1, 1) := by decide +kernel
theorem dX7_close_8 : decode cX7_close 8 = .ok (.iload_n 1, 1) := by decide +kernel
theorem dX7_close_9 : decode cX7_close 9 = .ok (.bipush 20, 2) := by decide +kernel
theorem dX7_close_11 : decode cX7_close 11 = .ok (.if_icmp .lt 10, 3) := by decide +kernel
theorem dX7_close_14 : decode cX7_close 14 = .ok (.aload_n 0, 1) := by decide +kernel
theorem dX7_close_15 : decode cX7_close 15 = .ok (.bipush (-6), 2) := by decide +kernel
theorem dX7_close_17 : decode cX7_close 17 = .ok (.invokevirtual 73, 3) := by decide +kernel
theorem dX7_close_20 : decode cX7_close 20 = .ok (.ireturn, 1) := by decide +kernel
theorem dX7_close_21 : decode cX7_close 21 = .ok (.iload_n 1, 1) := by decide +kernel
theorem dX7_close_22 : decode cX7_close 22 = .ok (.iconst 1, 1) := by decide +kernel
theorem dX7_close_23 : decode cX7_close 23 = .ok (.iadd, 1) := by decide +kernel
theorem dX7_close_24 : decode cX7_close 24 = .ok (.bipush 30, 2) := by decide +kernel
theorem dX7_close_26 : decode cX7_close 26 = .ok (.imul, 1) := by decide +kernel
theorem dX7_close_27 : decode cX7_close 27 = .ok (.aload_n 0, 1) := by decide +kernel
theorem dX7_close_28 : decode cX7_close 28 = .ok (.getfield 60, 3) := by decide +kernel
theorem dX7_close_31 : decode cX7_close 31 = .ok (.if_icmp .le 10, 3) := by decide +kernel
theorem dX7_close_34 : decode cX7_close 34 = .ok (.aload_n 0, 1) := by decide +kernel
theorem dX7_close_35 : decode cX7_close 35 = .ok (.bipush (-3), 2) := by decide +kernel
theorem dX7_close_37 : decode cX7_close 37 = .ok (.invokevirtual 73, 3) := by decide +kernel
theorem dX7_close_40 : decode cX7_close 40 = .ok (.ireturn, 1) := by decide +kernel
theorem dX7_close_41 : decode cX7_close 41 = .ok (.iconst 0, 1) := by decide +kernel
theorem dX7_close_42 : decode cX7_close 42 = .ok (.istore_n 2, 1) := by decide +kernel
theorem dX7_close_43 : decode cX7_close 43 = .ok (.iload_n 2, 1) := by decide +kernel
theorem dX7_close_44 : decode cX7_close 44 = .ok (.aload_n 0, 1) := by decide +kernel
theorem dX7_close_45 : decode cX7_close 45 = .ok (.getfield 64, 3) := by decide +kernel
theorem dX7_close_48 : decode cX7_close 48 = .ok (.if_icmp .ge 33, 3) := by decide +kernel
theorem dX7_close_51 : decode cX7_close 51 = .ok (.aload_n 0, 1) := by decide +kernel
theorem dX7_close_52 : decode cX7_close 52 = .ok (.getfield 28, 3) := by decide +kernel
theorem dX7_close_55 : decode cX7_close 55 = .ok (.iload_n 2, 1) := by decide +kernel
theorem dX7_close_56 : decode cX7_close 56 = .ok (.bipush 20, 2) := by decide +kernel
theorem dX7_close_58 : decode cX7_close 58 = .ok (.imul, 1) := by decide +kernel
theorem dX7_close_59 : decode cX7_close 59 = .ok (.iload_n 1, 1) := by decide +kernel
theorem dX7_close_60 : decode cX7_close 60 = .ok (.iadd, 1) := by decide +kernel
theorem dX7_close_61 : decode cX7_close 61 = .ok (.aload_n 0, 1) := by decide +kernel
theorem dX7_close_62 : decode cX7_close 62 = .ok (.getfield 35, 3) := by decide +kernel
theorem dX7_close_65 : decode cX7_close 65 = .ok (.iload_n 2, 1) := by decide +kernel
theorem dX7_close_66 : decode cX7_close 66 = .ok (.iload_n 1, 1) := by decide +kernel
theorem dX7_close_67 : decode cX7_close 67 = .ok (.aload_n 0, 1) := by decide +kernel
theorem dX7_close_68 : decode cX7_close 68 = .ok (.getfield 13, 3) := by decide +kernel
theorem dX7_close_71 : decode cX7_close 71 = .ok (.invokevirtual 167, 3) := by decide +kernel
theorem dX7_close_74 : decode cX7_close 74 = .ok (.lastore, 1) := by decide +kernel
theorem dX7_close_75 : decode cX7_close 75 = .ok (.iinc 2 1, 3) := by decide +kernel
theorem dX7_close_78 : decode cX7_close 78 = .ok (.goto (-35), 3) := by decide +kernel
theorem dX7_close_81 : decode cX7_close 81 = .ok (.aload_n 0, 1) := by decide +kernel
theorem dX7_close_82 : decode cX7_close 82 = .ok (.getfield 35, 3) := by decide +kernel
theorem dX7_close_85 : decode cX7_close 85 = .ok (.dup, 1) := by decide +kernel
theorem dX7_close_86 : decode cX7_close 86 = .ok (.getfield 171, 3) := by decide +kernel
theorem dX7_close_89 : decode cX7_close 89 = .ok (.iconst 1, 1) := by decide +kernel
theorem dX7_close_90 : decode cX7_close 90 = .ok (.iadd, 1) := by decide +kernel
theorem dX7_close_91 : decode cX7_close 91 = .ok (.putfield 171, 3) := by decide +kernel
theorem dX7_close_94 : decode cX7_close 94 = .ok (.iload_n 1, 1) := by decide +kernel
theorem dX7_close_95 : decode cX7_close 95 = .ok (.ireturn, 1) := by decide +kernel
theorem dX7_bill_0 : decode cX7_bill 0 = .ok (.aload_n 0, 1) := by decide +kernel
theorem dX7_bill_1 : decode cX7_bill 1 = .ok (.iload_n 1, 1) := by decide +kernel
theorem dX7_bill_2 : decode cX7_bill 2 = .ok (.iload_n 2, 1) := by decide +kernel
theorem dX7_bill_3 : decode cX7_bill 3 = .ok (.invokevirtual 164, 3) := by decide +kernel
theorem dX7_bill_6 : decode cX7_bill 6 = .ok (.istore_n 3, 1) := by decide +kernel
theorem dX7_bill_7 : decode cX7_bill 7 = .ok (.iload_n 3, 1) := by decide +kernel
theorem dX7_bill_8 : decode cX7_bill 8 = .ok (.ifCond .eq 10, 3) := by decide +kernel
theorem dX7_bill_11 : decode cX7_bill 11 = .ok (.aload_n 0, 1) := by decide +kernel
theorem dX7_bill_12 : decode cX7_bill 12 = .ok (.iload_n 3, 1) := by decide +kernel
theorem dX7_bill_13 : decode cX7_bill 13 = .ok (.invokevirtual 73, 3) := by decide +kernel
theorem dX7_bill_16 : decode cX7_bill 16 = .ok (.i2l, 1) := by decide +kernel
theorem dX7_bill_17 : decode cX7_bill 17 = .ok (.lreturn, 1) := by decide +kernel
theorem dX7_bill_18 : decode cX7_bill 18 = .ok (.iload_n 2, 1) := by decide +kernel
theorem dX7_bill_19 : decode cX7_bill 19 = .ok (.aload_n 0, 1) := by decide +kernel
theorem dX7_bill_20 : decode cX7_bill 20 = .ok (.getfield 35, 3) := by decide +kernel
theorem dX7_bill_23 : decode cX7_bill 23 = .ok (.getfield 171, 3) := by decide +kernel
theorem dX7_bill_26 : decode cX7_bill 26 = .ok (.if_icmp .lt 11, 3) := by decide +kernel
theorem dX7_bill_29 : decode cX7_bill 29 = .ok (.aload_n 0, 1) := by decide +kernel
theorem dX7_bill_30 : decode cX7_bill 30 = .ok (.bipush (-3), 2) := by decide +kernel
theorem dX7_bill_32 : decode cX7_bill 32 = .ok (.invokevirtual 73, 3) := by decide +kernel
theorem dX7_bill_35 : decode cX7_bill 35 = .ok (.i2l, 1) := by decide +kernel
theorem dX7_bill_36 : decode cX7_bill 36 = .ok (.lreturn, 1) := by decide +kernel
theorem dX7_bill_37 : decode cX7_bill 37 = .ok (.aload_n 0, 1) := by decide +kernel
theorem dX7_bill_38 : decode cX7_bill 38 = .ok (.getfield 28, 3) := by decide +kernel
theorem dX7_bill_41 : decode cX7_bill 41 = .ok (.iload_n 1, 1) := by decide +kernel
theorem dX7_bill_42 : decode cX7_bill 42 = .ok (.bipush 20, 2) := by decide +kernel
theorem dX7_bill_44 : decode cX7_bill 44 = .ok (.imul, 1) := by decide +kernel
theorem dX7_bill_45 : decode cX7_bill 45 = .ok (.iload_n 2, 1) := by decide +kernel
theorem dX7_bill_46 : decode cX7_bill 46 = .ok (.iadd, 1) := by decide +kernel
theorem dX7_bill_47 : decode cX7_bill 47 = .ok (.laload, 1) := by decide +kernel
theorem dX7_bill_48 : decode cX7_bill 48 = .ok (.lreturn, 1) := by decide +kernel
theorem dX7_telling_0 : decode cX7_telling 0 = .ok (.aload_n 0, 1) := by decide +kernel
theorem dX7_telling_1 : decode cX7_telling 1 = .ok (.getfield 42, 3) := by decide +kernel
theorem dX7_telling_4 : decode cX7_telling 4 = .ok (.iload_n 1, 1) := by decide +kernel
theorem dX7_telling_5 : decode cX7_telling 5 = .ok (.invokevirtual 115, 3) := by decide +kernel
theorem dX7_telling_8 : decode cX7_telling 8 = .ok (.astore_n 3, 1) := by decide +kernel
theorem dX7_telling_9 : decode cX7_telling 9 = .ok (.aload_n 3, 1) := by decide +kernel
theorem dX7_telling_10 : decode cX7_telling 10 = .ok (.ifnonnull 6, 3) := by decide +kernel
theorem dX7_telling_13 : decode cX7_telling 13 = .ok (.bipush (-9), 2) := by decide +kernel
theorem dX7_telling_15 : decode cX7_telling 15 = .ok (.ireturn, 1) := by decide +kernel
theorem dX7_telling_16 : decode cX7_telling 16 = .ok (.iload_n 2, 1) := by decide +kernel
theorem dX7_telling_17 : decode cX7_telling 17 = .ok (.tableswitch 95 0 7 #[47, 60, 65, 70, 75, 80, 85, 90], 47) := by decide +kernel
theorem dX7_telling_64 : decode cX7_telling 64 = .ok (.aload_n 3, 1) := by decide +kernel
theorem dX7_telling_65 : decode cX7_telling 65 = .ok (.getfield 174, 3) := by decide +kernel
theorem dX7_telling_68 : decode cX7_telling 68 = .ok (.ifCond .eq 7, 3) := by decide +kernel
theorem dX7_telling_71 : decode cX7_telling 71 = .ok (.iconst 1, 1) := by decide +kernel
theorem dX7_telling_72 : decode cX7_telling 72 = .ok (.goto 4, 3) := by decide +kernel
theorem dX7_telling_75 : decode cX7_telling 75 = .ok (.iconst 0, 1) := by decide +kernel
theorem dX7_telling_76 : decode cX7_telling 76 = .ok (.ireturn, 1) := by decide +kernel
theorem dX7_telling_77 : decode cX7_telling 77 = .ok (.aload_n 3, 1) := by decide +kernel
theorem dX7_telling_78 : decode cX7_telling 78 = .ok (.getfield 177, 3) := by decide +kernel
theorem dX7_telling_81 : decode cX7_telling 81 = .ok (.ireturn, 1) := by decide +kernel
theorem dX7_telling_82 : decode cX7_telling 82 = .ok (.aload_n 3, 1) := by decide +kernel
theorem dX7_telling_83 : decode cX7_telling 83 = .ok (.getfield 180, 3) := by decide +kernel
theorem dX7_telling_86 : decode cX7_telling 86 = .ok (.ireturn, 1) := by decide +kernel
theorem dX7_telling_87 : decode cX7_telling 87 = .ok (.aload_n 3, 1) := by decide +kernel
theorem dX7_telling_88 : decode cX7_telling 88 = .ok (.getfield 183, 3) := by decide +kernel
theorem dX7_telling_91 : decode cX7_telling 91 = .ok (.ireturn, 1) := by decide +kernel
theorem dX7_telling_92 : decode cX7_telling 92 = .ok (.aload_n 3, 1) := by decide +kernel
theorem dX7_telling_93 : decode cX7_telling 93 = .ok (.getfield 186, 3) := by decide +kernel
theorem dX7_telling_96 : decode cX7_telling 96 = .ok (.ireturn, 1) := by decide +kernel
theorem dX7_telling_97 : decode cX7_telling 97 = .ok (.aload_n 3, 1) := by decide +kernel
theorem dX7_telling_98 : decode cX7_telling 98 = .ok (.getfield 189, 3) := by decide +kernel
theorem dX7_telling_101 : decode cX7_telling 101 = .ok (.ireturn, 1) := by decide +kernel
theorem dX7_telling_102 : decode cX7_telling 102 = .ok (.aload_n 3, 1) := by decide +kernel
theorem dX7_telling_103 : decode cX7_telling 103 = .ok (.getfield 119, 3) := by decide +kernel
theorem dX7_telling_106 : decode cX7_telling 106 = .ok (.ireturn, 1) := by decide +kernel
theorem dX7_telling_107 : decode cX7_telling 107 = .ok (.aload_n 3, 1) := by decide +kernel
theorem dX7_telling_108 : decode cX7_telling 108 = .ok (.getfield 192, 3) := by decide +kernel
theorem dX7_telling_111 : decode cX7_telling 111 = .ok (.ireturn, 1) := by decide +kernel
theorem dX7_telling_112 : decode cX7_telling 112 = .ok (.bipush (-9), 2) := by decide +kernel
theorem dX7_telling_114 : decode cX7_telling 114 = .ok (.ireturn, 1) := by decide +kernel
theorem dX7_pairOf_0 : decode cX7_pairOf 0 = .ok (.aload_n 0, 1) := by decide +kernel
theorem dX7_pairOf_1 : decode cX7_pairOf 1 = .ok (.getfield 42, 3) := by decide +kernel
theorem dX7_pairOf_4 : decode cX7_pairOf 4 = .ok (.iload_n 1, 1) := by decide +kernel
theorem dX7_pairOf_5 : decode cX7_pairOf 5 = .ok (.invokevirtual 131, 3) := by decide +kernel
theorem dX7_pairOf_8 : decode cX7_pairOf 8 = .ok (.astore_n 3, 1) := by decide +kernel
theorem dX7_pairOf_9 : decode cX7_pairOf 9 = .ok (.aload_n 3, 1) := by decide +kernel
theorem dX7_pairOf_10 : decode cX7_pairOf 10 = .ok (.ifnonnull 6, 3) := by decide +kernel
theorem dX7_pairOf_13 : decode cX7_pairOf 13 = .ok (.bipush (-9), 2) := by decide +kernel
theorem dX7_pairOf_15 : decode cX7_pairOf 15 = .ok (.ireturn, 1) := by decide +kernel
theorem dX7_pairOf_16 : decode cX7_pairOf 16 = .ok (.iload_n 2, 1) := by decide +kernel
theorem dX7_pairOf_17 : decode cX7_pairOf 17 = .ok (.tableswitch 94 0 5 #[39, 47, 55, 63, 76, 81], 39) := by decide +kernel
theorem dX7_pairOf_56 : decode cX7_pairOf 56 = .ok (.aload_n 3, 1) := by decide +kernel
theorem dX7_pairOf_57 : decode cX7_pairOf 57 = .ok (.getfield 195, 3) := by decide +kernel
theorem dX7_pairOf_60 : decode cX7_pairOf 60 = .ok (.getfield 198, 3) := by decide +kernel
theorem dX7_pairOf_63 : decode cX7_pairOf 63 = .ok (.ireturn, 1) := by decide +kernel
theorem dX7_pairOf_64 : decode cX7_pairOf 64 = .ok (.aload_n 3, 1) := by decide +kernel
theorem dX7_pairOf_65 : decode cX7_pairOf 65 = .ok (.getfield 201, 3) := by decide +kernel
theorem dX7_pairOf_68 : decode cX7_pairOf 68 = .ok (.getfield 198, 3) := by decide +kernel
theorem dX7_pairOf_71 : decode cX7_pairOf 71 = .ok (.ireturn, 1) := by decide +kernel
theorem dX7_pairOf_72 : decode cX7_pairOf 72 = .ok (.aload_n 3, 1) := by decide +kernel
theorem dX7_pairOf_73 : decode cX7_pairOf 73 = .ok (.getfield 201, 3) := by decide +kernel
theorem dX7_pairOf_76 : decode cX7_pairOf 76 = .ok (.getfield 189, 3) := by decide +kernel
theorem dX7_pairOf_79 : decode cX7_pairOf 79 = .ok (.ireturn, 1) := by decide +kernel
theorem dX7_pairOf_80 : decode cX7_pairOf 80 = .ok (.aload_n 3, 1) := by decide +kernel
theorem dX7_pairOf_81 : decode cX7_pairOf 81 = .ok (.invokevirtual 144, 3) := by decide +kernel
theorem dX7_pairOf_84 : decode cX7_pairOf 84 = .ok (.ifCond .eq 7, 3) := by decide +kernel
theorem dX7_pairOf_87 : decode cX7_pairOf 87 = .ok (.iconst 1, 1) := by decide +kernel
theorem dX7_pairOf_88 : decode cX7_pairOf 88 = .ok (.goto 4, 3) := by decide +kernel
theorem dX7_pairOf_91 : decode cX7_pairOf 91 = .ok (.iconst 0, 1) := by decide +kernel
theorem dX7_pairOf_92 : decode cX7_pairOf 92 = .ok (.ireturn, 1) := by decide +kernel
theorem dX7_pairOf_93 : decode cX7_pairOf 93 = .ok (.aload_n 3, 1) := by decide +kernel
theorem dX7_pairOf_94 : decode cX7_pairOf 94 = .ok (.getfield 135, 3) := by decide +kernel
theorem dX7_pairOf_97 : decode cX7_pairOf 97 = .ok (.ireturn, 1) := by decide +kernel
theorem dX7_pairOf_98 : decode cX7_pairOf 98 = .ok (.aload_n 3, 1) := by decide +kernel
theorem dX7_pairOf_99 : decode cX7_pairOf 99 = .ok (.getfield 148, 3) := by decide +kernel
theorem dX7_pairOf_102 : decode cX7_pairOf 102 = .ok (.ifCond .eq 7, 3) := by decide +kernel
theorem dX7_pairOf_105 : decode cX7_pairOf 105 = .ok (.iconst 1, 1) := by decide +kernel
theorem dX7_pairOf_106 : decode cX7_pairOf 106 = .ok (.goto 4, 3) := by decide +kernel
theorem dX7_pairOf_109 : decode cX7_pairOf 109 = .ok (.iconst 0, 1) := by decide +kernel
theorem dX7_pairOf_110 : decode cX7_pairOf 110 = .ok (.ireturn, 1) := by decide +kernel
theorem dX7_pairOf_111 : decode cX7_pairOf 111 = .ok (.bipush (-9), 2) := by decide +kernel
theorem dX7_pairOf_113 : decode cX7_pairOf 113 = .ok (.ireturn, 1) := by decide +kernel
theorem dX7_owe_0 : decode cX7_owe 0 = .ok (.aload_n 0, 1) := by decide +kernel
theorem dX7_owe_1 : decode cX7_owe 1 = .ok (.iload_n 1, 1) := by decide +kernel
theorem dX7_owe_2 : decode cX7_owe 2 = .ok (.iload_n 2, 1) := by decide +kernel
theorem dX7_owe_3 : decode cX7_owe 3 = .ok (.invokevirtual 99, 3) := by decide +kernel
theorem dX7_owe_6 : decode cX7_owe 6 = .ok (.ifCond .eq 11, 3) := by decide +kernel
theorem dX7_owe_9 : decode cX7_owe 9 = .ok (.aload_n 0, 1) := by decide +kernel
theorem dX7_owe_10 : decode cX7_owe 10 = .ok (.iload_n 3, 1) := by decide +kernel
theorem dX7_owe_11 : decode cX7_owe 11 = .ok (.invokevirtual 81, 3) := by decide +kernel
theorem dX7_owe_14 : decode cX7_owe 14 = .ok (.ifCond .ne 9, 3) := by decide +kernel
theorem dX7_owe_17 : decode cX7_owe 17 = .ok (.aload_n 0, 1) := by decide +kernel
theorem dX7_owe_18 : decode cX7_owe 18 = .ok (.iconst (-1), 1) := by decide +kernel
theorem dX7_owe_19 : decode cX7_owe 19 = .ok (.invokevirtual 73, 3) := by decide +kernel
theorem dX7_owe_22 : decode cX7_owe 22 = .ok (.ireturn, 1) := by decide +kernel
theorem dX7_owe_23 : decode cX7_owe 23 = .ok (.iload 4, 2) := by decide +kernel
theorem dX7_owe_25 : decode cX7_owe 25 = .ok (.iconst 1, 1) := by decide +kernel
theorem dX7_owe_26 : decode cX7_owe 26 = .ok (.if_icmp .ge 10, 3) := by decide +kernel
theorem dX7_owe_29 : decode cX7_owe 29 = .ok (.aload_n 0, 1) := by decide +kernel
theorem dX7_owe_30 : decode cX7_owe 30 = .ok (.bipush (-4), 2) := by decide +kernel
theorem dX7_owe_32 : decode cX7_owe 32 = .ok (.invokevirtual 73, 3) := by decide +kernel
theorem dX7_owe_35 : decode cX7_owe 35 = .ok (.ireturn, 1) := by decide +kernel
theorem dX7_owe_36 : decode cX7_owe 36 = .ok (.iload 4, 2) := by decide +kernel
theorem dX7_owe_38 : decode cX7_owe 38 = .ok (.ldc 152, 2) := by decide +kernel
theorem dX7_owe_40 : decode cX7_owe 40 = .ok (.aload_n 0, 1) := by decide +kernel
theorem dX7_owe_41 : decode cX7_owe 41 = .ok (.getfield 49, 3) := by decide +kernel
theorem dX7_owe_44 : decode cX7_owe 44 = .ok (.iload_n 3, 1) := by decide +kernel
theorem dX7_owe_45 : decode cX7_owe 45 = .ok (.iload_n 1, 1) := by decide +kernel
theorem dX7_owe_46 : decode cX7_owe 46 = .ok (.iload_n 2, 1) := by decide +kernel
theorem dX7_owe_47 : decode cX7_owe 47 = .ok (.invokevirtual 204, 3) := by decide +kernel
theorem dX7_owe_50 : decode cX7_owe 50 = .ok (.isub, 1) := by decide +kernel
theorem dX7_owe_51 : decode cX7_owe 51 = .ok (.if_icmp .le 10, 3) := by decide +kernel
theorem dX7_owe_54 : decode cX7_owe 54 = .ok (.aload_n 0, 1) := by decide +kernel
theorem dX7_owe_55 : decode cX7_owe 55 = .ok (.bipush (-6), 2) := by decide +kernel
theorem dX7_owe_57 : decode cX7_owe 57 = .ok (.invokevirtual 73, 3) := by decide +kernel
theorem dX7_owe_60 : decode cX7_owe 60 = .ok (.ireturn, 1) := by decide +kernel
theorem dX7_owe_61 : decode cX7_owe 61 = .ok (.aload_n 0, 1) := by decide +kernel
theorem dX7_owe_62 : decode cX7_owe 62 = .ok (.getfield 49, 3) := by decide +kernel
theorem dX7_owe_65 : decode cX7_owe 65 = .ok (.iload_n 3, 1) := by decide +kernel
theorem dX7_owe_66 : decode cX7_owe 66 = .ok (.iload_n 1, 1) := by decide +kernel
theorem dX7_owe_67 : decode cX7_owe 67 = .ok (.iload_n 2, 1) := by decide +kernel
theorem dX7_owe_68 : decode cX7_owe 68 = .ok (.iload 4, 2) := by decide +kernel
theorem dX7_owe_70 : decode cX7_owe 70 = .ok (.invokevirtual 207, 3) := by decide +kernel
