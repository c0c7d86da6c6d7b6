theorem dX7_owe_73 : decode cX7_owe 73 = .ok (.aload_n 0, 1) := by decide +kernel
theorem dX7_owe_74 : decode cX7_owe 74 = .ok (.getfield 49, 3) := by decide +kernel
theorem dX7_owe_77 : decode cX7_owe 77 = .ok (.iload_n 3, 1) := by decide +kernel
theorem dX7_owe_78 : decode cX7_owe 78 = .ok (.iload_n 1, 1) := by decide +kernel
theorem dX7_owe_79 : decode cX7_owe 79 = .ok (.iload_n 2, 1) := by decide +kernel
theorem dX7_owe_80 : decode cX7_owe 80 = .ok (.invokevirtual 204, 3) := by decide +kernel
theorem dX7_owe_83 : decode cX7_owe 83 = .ok (.ireturn, 1) := by decide +kernel
theorem dX7_owes_0 : decode cX7_owes 0 = .ok (.aload_n 0, 1) := by decide +kernel
theorem dX7_owes_1 : decode cX7_owes 1 = .ok (.iload_n 1, 1) := by decide +kernel
theorem dX7_owes_2 : decode cX7_owes 2 = .ok (.invokevirtual 77, 3) := by decide +kernel
theorem dX7_owes_5 : decode cX7_owes 5 = .ok (.ifCond .eq 19, 3) := by decide +kernel
theorem dX7_owes_8 : decode cX7_owes 8 = .ok (.aload_n 0, 1) := by decide +kernel
theorem dX7_owes_9 : decode cX7_owes 9 = .ok (.iload_n 2, 1) := by decide +kernel
theorem dX7_owes_10 : decode cX7_owes 10 = .ok (.invokevirtual 77, 3) := by decide +kernel
theorem dX7_owes_13 : decode cX7_owes 13 = .ok (.ifCond .eq 11, 3) := by decide +kernel
theorem dX7_owes_16 : decode cX7_owes 16 = .ok (.aload_n 0, 1) := by decide +kernel
theorem dX7_owes_17 : decode cX7_owes 17 = .ok (.iload_n 3, 1) := by decide +kernel
theorem dX7_owes_18 : decode cX7_owes 18 = .ok (.invokevirtual 81, 3) := by decide +kernel
theorem dX7_owes_21 : decode cX7_owes 21 = .ok (.ifCond .ne 9, 3) := by decide +kernel
theorem dX7_owes_24 : decode cX7_owes 24 = .ok (.aload_n 0, 1) := by decide +kernel
theorem dX7_owes_25 : decode cX7_owes 25 = .ok (.iconst (-1), 1) := by decide +kernel
theorem dX7_owes_26 : decode cX7_owes 26 = .ok (.invokevirtual 73, 3) := by decide +kernel
theorem dX7_owes_29 : decode cX7_owes 29 = .ok (.ireturn, 1) := by decide +kernel
theorem dX7_owes_30 : decode cX7_owes 30 = .ok (.aload_n 0, 1) := by decide +kernel
theorem dX7_owes_31 : decode cX7_owes 31 = .ok (.getfield 49, 3) := by decide +kernel
theorem dX7_owes_34 : decode cX7_owes 34 = .ok (.iload_n 3, 1) := by decide +kernel
theorem dX7_owes_35 : decode cX7_owes 35 = .ok (.iload_n 1, 1) := by decide +kernel
theorem dX7_owes_36 : decode cX7_owes 36 = .ok (.iload_n 2, 1) := by decide +kernel
theorem dX7_owes_37 : decode cX7_owes 37 = .ok (.invokevirtual 204, 3) := by decide +kernel
theorem dX7_owes_40 : decode cX7_owes 40 = .ok (.ireturn, 1) := by decide +kernel
theorem dX7_ring_0 : decode cX7_ring 0 = .ok (.aload_n 0, 1) := by decide +kernel
theorem dX7_ring_1 : decode cX7_ring 1 = .ok (.iload_n 1, 1) := by decide +kernel
theorem dX7_ring_2 : decode cX7_ring 2 = .ok (.invokevirtual 81, 3) := by decide +kernel
theorem dX7_ring_5 : decode cX7_ring 5 = .ok (.ifCond .ne 9, 3) := by decide +kernel
theorem dX7_ring_8 : decode cX7_ring 8 = .ok (.aload_n 0, 1) := by decide +kernel
theorem dX7_ring_9 : decode cX7_ring 9 = .ok (.iconst (-1), 1) := by decide +kernel
theorem dX7_ring_10 : decode cX7_ring 10 = .ok (.invokevirtual 73, 3) := by decide +kernel
theorem dX7_ring_13 : decode cX7_ring 13 = .ok (.ireturn, 1) := by decide +kernel
theorem dX7_ring_14 : decode cX7_ring 14 = .ok (.aload_n 0, 1) := by decide +kernel
theorem dX7_ring_15 : decode cX7_ring 15 = .ok (.getfield 49, 3) := by decide +kernel
theorem dX7_ring_18 : decode cX7_ring 18 = .ok (.iload_n 1, 1) := by decide +kernel
theorem dX7_ring_19 : decode cX7_ring 19 = .ok (.invokevirtual 210, 3) := by decide +kernel
theorem dX7_ring_22 : decode cX7_ring 22 = .ok (.aload_n 0, 1) := by decide +kernel
theorem dX7_ring_23 : decode cX7_ring 23 = .ok (.getfield 49, 3) := by decide +kernel
theorem dX7_ring_26 : decode cX7_ring 26 = .ok (.iload_n 2, 1) := by decide +kernel
theorem dX7_ring_27 : decode cX7_ring 27 = .ok (.invokevirtual 214, 3) := by decide +kernel
theorem dX7_ring_30 : decode cX7_ring 30 = .ok (.ireturn, 1) := by decide +kernel
theorem dX7_off_0 : decode cX7_off 0 = .ok (.aload_n 0, 1) := by decide +kernel
theorem dX7_off_1 : decode cX7_off 1 = .ok (.iload_n 1, 1) := by decide +kernel
theorem dX7_off_2 : decode cX7_off 2 = .ok (.invokevirtual 81, 3) := by decide +kernel
theorem dX7_off_5 : decode cX7_off 5 = .ok (.ifCond .ne 9, 3) := by decide +kernel
theorem dX7_off_8 : decode cX7_off 8 = .ok (.aload_n 0, 1) := by decide +kernel
theorem dX7_off_9 : decode cX7_off 9 = .ok (.iconst (-1), 1) := by decide +kernel
theorem dX7_off_10 : decode cX7_off 10 = .ok (.invokevirtual 73, 3) := by decide +kernel
theorem dX7_off_13 : decode cX7_off 13 = .ok (.ireturn, 1) := by decide +kernel
theorem dX7_off_14 : decode cX7_off 14 = .ok (.aload_n 0, 1) := by decide +kernel
theorem dX7_off_15 : decode cX7_off 15 = .ok (.getfield 49, 3) := by decide +kernel
theorem dX7_off_18 : decode cX7_off 18 = .ok (.iload_n 1, 1) := by decide +kernel
theorem dX7_off_19 : decode cX7_off 19 = .ok (.invokevirtual 217, 3) := by decide +kernel
theorem dX7_off_22 : decode cX7_off 22 = .ok (.ireturn, 1) := by decide +kernel
theorem dX7_want_0 : decode cX7_want 0 = .ok (.aload_n 0, 1) := by decide +kernel
theorem dX7_want_1 : decode cX7_want 1 = .ok (.iload_n 1, 1) := by decide +kernel
theorem dX7_want_2 : decode cX7_want 2 = .ok (.invokevirtual 77, 3) := by decide +kernel
theorem dX7_want_5 : decode cX7_want 5 = .ok (.ifCond .ne 9, 3) := by decide +kernel
theorem dX7_want_8 : decode cX7_want 8 = .ok (.aload_n 0, 1) := by decide +kernel
theorem dX7_want_9 : decode cX7_want 9 = .ok (.iconst (-1), 1) := by decide +kernel
theorem dX7_want_10 : decode cX7_want 10 = .ok (.invokevirtual 73, 3) := by decide +kernel
theorem dX7_want_13 : decode cX7_want 13 = .ok (.ireturn, 1) := by decide +kernel
theorem dX7_want_14 : decode cX7_want 14 = .ok (.iload_n 2, 1) := by decide +kernel
theorem dX7_want_15 : decode cX7_want 15 = .ok (.ifCond .lt 7, 3) := by decide +kernel
theorem dX7_want_18 : decode cX7_want 18 = .ok (.iload_n 3, 1) := by decide +kernel
theorem dX7_want_19 : decode cX7_want 19 = .ok (.ifCond .ge 10, 3) := by decide +kernel
theorem dX7_want_22 : decode cX7_want 22 = .ok (.aload_n 0, 1) := by decide +kernel
theorem dX7_want_23 : decode cX7_want 23 = .ok (.bipush (-4), 2) := by decide +kernel
theorem dX7_want_25 : decode cX7_want 25 = .ok (.invokevirtual 73, 3) := by decide +kernel
theorem dX7_want_28 : decode cX7_want 28 = .ok (.ireturn, 1) := by decide +kernel
theorem dX7_want_29 : decode cX7_want 29 = .ok (.iload_n 2, 1) := by decide +kernel
theorem dX7_want_30 : decode cX7_want 30 = .ok (.bipush 100, 2) := by decide +kernel
theorem dX7_want_32 : decode cX7_want 32 = .ok (.if_icmp .gt 9, 3) := by decide +kernel
theorem dX7_want_35 : decode cX7_want 35 = .ok (.iload_n 3, 1) := by decide +kernel
theorem dX7_want_36 : decode cX7_want 36 = .ok (.bipush 100, 2) := by decide +kernel
theorem dX7_want_38 : decode cX7_want 38 = .ok (.if_icmp .le 10, 3) := by decide +kernel
theorem dX7_want_41 : decode cX7_want 41 = .ok (.aload_n 0, 1) := by decide +kernel
theorem dX7_want_42 : decode cX7_want 42 = .ok (.bipush (-6), 2) := by decide +kernel
theorem dX7_want_44 : decode cX7_want 44 = .ok (.invokevirtual 73, 3) := by decide +kernel
theorem dX7_want_47 : decode cX7_want 47 = .ok (.ireturn, 1) := by decide +kernel
theorem dX7_want_48 : decode cX7_want 48 = .ok (.aload_n 0, 1) := by decide +kernel
theorem dX7_want_49 : decode cX7_want 49 = .ok (.getfield 56, 3) := by decide +kernel
theorem dX7_want_52 : decode cX7_want 52 = .ok (.getfield 220, 3) := by decide +kernel
theorem dX7_want_55 : decode cX7_want 55 = .ok (.iload_n 1, 1) := by decide +kernel
theorem dX7_want_56 : decode cX7_want 56 = .ok (.iload_n 2, 1) := by decide +kernel
theorem dX7_want_57 : decode cX7_want 57 = .ok (.iastore, 1) := by decide +kernel
theorem dX7_want_58 : decode cX7_want 58 = .ok (.aload_n 0, 1) := by decide +kernel
theorem dX7_want_59 : decode cX7_want 59 = .ok (.getfield 56, 3) := by decide +kernel
theorem dX7_want_62 : decode cX7_want 62 = .ok (.getfield 223, 3) := by decide +kernel
theorem dX7_want_65 : decode cX7_want 65 = .ok (.iload_n 1, 1) := by decide +kernel
theorem dX7_want_66 : decode cX7_want 66 = .ok (.iload_n 3, 1) := by decide +kernel
theorem dX7_want_67 : decode cX7_want 67 = .ok (.iastore, 1) := by decide +kernel
theorem dX7_want_68 : decode cX7_want 68 = .ok (.iconst 1, 1) := by decide +kernel
theorem dX7_want_69 : decode cX7_want 69 = .ok (.ireturn, 1) := by decide +kernel
theorem dX7_way_0 : decode cX7_way 0 = .ok (.aload_n 0, 1) := by decide +kernel
theorem dX7_way_1 : decode cX7_way 1 = .ok (.iload_n 1, 1) := by decide +kernel
theorem dX7_way_2 : decode cX7_way 2 = .ok (.iload_n 2, 1) := by decide +kernel
theorem dX7_way_3 : decode cX7_way 3 = .ok (.invokevirtual 99, 3) := by decide +kernel
theorem dX7_way_6 : decode cX7_way 6 = .ok (.ifCond .ne 9, 3) := by decide +kernel
theorem dX7_way_9 : decode cX7_way 9 = .ok (.aload_n 0, 1) := by decide +kernel
theorem dX7_way_10 : decode cX7_way 10 = .ok (.iconst (-1), 1) := by decide +kernel
theorem dX7_way_11 : decode cX7_way 11 = .ok (.invokevirtual 73, 3) := by decide +kernel
theorem dX7_way_14 : decode cX7_way 14 = .ok (.ireturn, 1) := by decide +kernel
theorem dX7_way_15 : decode cX7_way 15 = .ok (.iload_n 3, 1) := by decide +kernel
theorem dX7_way_16 : decode cX7_way 16 = .ok (.ifCond .ge 10, 3) := by decide +kernel
theorem dX7_way_19 : decode cX7_way 19 = .ok (.aload_n 0, 1) := by decide +kernel
theorem dX7_way_20 : decode cX7_way 20 = .ok (.bipush (-4), 2) := by decide +kernel
theorem dX7_way_22 : decode cX7_way 22 = .ok (.invokevirtual 73, 3) := by decide +kernel
theorem dX7_way_25 : decode cX7_way 25 = .ok (.ireturn, 1) := by decide +kernel
theorem dX7_way_26 : decode cX7_way 26 = .ok (.iload_n 3, 1) := by decide +kernel
theorem dX7_way_27 : decode cX7_way 27 = .ok (.sipush 1000, 3) := by decide +kernel
theorem dX7_way_30 : decode cX7_way 30 = .ok (.if_icmp .le 10, 3) := by decide +kernel
theorem dX7_way_33 : decode cX7_way 33 = .ok (.aload_n 0, 1) := by decide +kernel
theorem dX7_way_34 : decode cX7_way 34 = .ok (.bipush (-6), 2) := by decide +kernel
theorem dX7_way_36 : decode cX7_way 36 = .ok (.invokevirtual 73, 3) := by decide +kernel
theorem dX7_way_39 : decode cX7_way 39 = .ok (.ireturn, 1) := by decide +kernel
theorem dX7_way_40 : decode cX7_way 40 = .ok (.aload_n 0, 1) := by decide +kernel
theorem dX7_way_41 : decode cX7_way 41 = .ok (.getfield 56, 3) := by decide +kernel
theorem dX7_way_44 : decode cX7_way 44 = .ok (.getfield 226, 3) := by decide +kernel
theorem dX7_way_47 : decode cX7_way 47 = .ok (.iload_n 1, 1) := by decide +kernel
theorem dX7_way_48 : decode cX7_way 48 = .ok (.bipush 10, 2) := by decide +kernel
theorem dX7_way_50 : decode cX7_way 50 = .ok (.imul, 1) := by decide +kernel
theorem dX7_way_51 : decode cX7_way 51 = .ok (.iload_n 2, 1) := by decide +kernel
theorem dX7_way_52 : decode cX7_way 52 = .ok (.iadd, 1) := by decide +kernel
theorem dX7_way_53 : decode cX7_way 53 = .ok (.iaload, 1) := by decide +kernel
theorem dX7_way_54 : decode cX7_way 54 = .ok (.istore 4, 2) := by decide +kernel
theorem dX7_way_56 : decode cX7_way 56 = .ok (.aload_n 0, 1) := by decide +kernel
theorem dX7_way_57 : decode cX7_way 57 = .ok (.getfield 56, 3) := by decide +kernel
theorem dX7_way_60 : decode cX7_way 60 = .ok (.getfield 226, 3) := by decide +kernel
theorem dX7_way_63 : decode cX7_way 63 = .ok (.iload_n 1, 1) := by decide +kernel
theorem dX7_way_64 : decode cX7_way 64 = .ok (.bipush 10, 2) := by decide +kernel
theorem dX7_way_66 : decode cX7_way 66 = .ok (.imul, 1) := by decide +kernel
theorem dX7_way_67 : decode cX7_way 67 = .ok (.iload_n 2, 1) := by decide +kernel
theorem dX7_way_68 : decode cX7_way 68 = .ok (.iadd, 1) := by decide +kernel
theorem dX7_way_69 : decode cX7_way 69 = .ok (.iload_n 3, 1) := by decide +kernel
theorem dX7_way_70 : decode cX7_way 70 = .ok (.iastore, 1) := by decide +kernel
theorem dX7_way_71 : decode cX7_way 71 = .ok (.aload_n 0, 1) := by decide +kernel
theorem dX7_way_72 : decode cX7_way 72 = .ok (.getfield 56, 3) := by decide +kernel
theorem dX7_way_75 : decode cX7_way 75 = .ok (.getfield 226, 3) := by decide +kernel
theorem dX7_way_78 : decode cX7_way 78 = .ok (.iload_n 2, 1) := by decide +kernel
theorem dX7_way_79 : decode cX7_way 79 = .ok (.bipush 10, 2) := by decide +kernel
theorem dX7_way_81 : decode cX7_way 81 = .ok (.imul, 1) := by decide +kernel
theorem dX7_way_82 : decode cX7_way 82 = .ok (.iload_n 1, 1) := by decide +kernel
theorem dX7_way_83 : decode cX7_way 83 = .ok (.iadd, 1) := by decide +kernel
theorem dX7_way_84 : decode cX7_way 84 = .ok (.iload_n 3, 1) := by decide +kernel
theorem dX7_way_85 : decode cX7_way 85 = .ok (.iastore, 1) := by decide +kernel
theorem dX7_way_86 : decode cX7_way 86 = .ok (.iload 4, 2) := by decide +kernel
theorem dX7_way_88 : decode cX7_way 88 = .ok (.ireturn, 1) := by decide +kernel
theorem dX7_plan_0 : decode cX7_plan 0 = .ok (.aload_n 0, 1) := by decide +kernel
theorem dX7_plan_1 : decode cX7_plan 1 = .ok (.getfield 56, 3) := by decide +kernel
theorem dX7_plan_4 : decode cX7_plan 4 = .ok (.invokevirtual 229, 3) := by decide +kernel
theorem dX7_plan_7 : decode cX7_plan 7 = .ok (.ifCond .ne 10, 3) := by decide +kernel
theorem dX7_plan_10 : decode cX7_plan 10 = .ok (.aload_n 0, 1) := by decide +kernel
theorem dX7_plan_11 : decode cX7_plan 11 = .ok (.bipush (-5), 2) := by decide +kernel
theorem dX7_plan_13 : decode cX7_plan 13 = .ok (.invokevirtual 73, 3) := by decide +kernel
theorem dX7_plan_16 : decode cX7_plan 16 = .ok (.ireturn, 1) := by decide +kernel
theorem dX7_plan_17 : decode cX7_plan 17 = .ok (.aload_n 0, 1) := by decide +kernel
theorem dX7_plan_18 : decode cX7_plan 18 = .ok (.getfield 56, 3) := by decide +kernel
theorem dX7_plan_21 : decode cX7_plan 21 = .ok (.aload_n 0, 1) := by decide +kernel
theorem dX7_plan_22 : decode cX7_plan 22 = .ok (.getfield 64, 3) := by decide +kernel
theorem dX7_plan_25 : decode cX7_plan 25 = .ok (.invokevirtual 232, 3) := by decide +kernel
theorem dX7_plan_28 : decode cX7_plan 28 = .ok (.ireturn, 1) := by decide +kernel
theorem dX7_check_0 : decode cX7_check 0 = .ok (.aload_n 0, 1) := by decide +kernel
theorem dX7_check_1 : decode cX7_check 1 = .ok (.iload_n 1, 1) := by decide +kernel
theorem dX7_check_2 : decode cX7_check 2 = .ok (.invokevirtual 81, 3) := by decide +kernel
theorem dX7_check_5 : decode cX7_check 5 = .ok (.ifCond .ne 5, 3) := by decide +kernel
theorem dX7_check_8 : decode cX7_check 8 = .ok (.iconst 0, 1) := by decide +kernel
theorem dX7_check_9 : decode cX7_check 9 = .ok (.ireturn, 1) := by decide +kernel
theorem dX7_check_10 : decode cX7_check 10 = .ok (.aload_n 0, 1) := by decide +kernel
theorem dX7_check_11 : decode cX7_check 11 = .ok (.getfield 16, 3) := by decide +kernel
theorem dX7_check_14 : decode cX7_check 14 = .ok (.iload_n 1, 1) := by decide +kernel
theorem dX7_check_15 : decode cX7_check 15 = .ok (.iaload, 1) := by decide +kernel
theorem dX7_check_16 : decode cX7_check 16 = .ok (.aload_n 0, 1) := by decide +kernel
theorem dX7_check_17 : decode cX7_check 17 = .ok (.getfield 19, 3) := by decide +kernel
theorem dX7_check_20 : decode cX7_check 20 = .ok (.iload_n 1, 1) := by decide +kernel
theorem dX7_check_21 : decode cX7_check 21 = .ok (.iaload, 1) := by decide +kernel
theorem dX7_check_22 : decode cX7_check 22 = .ok (.isub, 1) := by decide +kernel
theorem dX7_check_23 : decode cX7_check 23 = .ok (.aload_n 0, 1) := by decide +kernel
theorem dX7_check_24 : decode cX7_check 24 = .ok (.getfield 35, 3) := by decide +kernel
theorem dX7_check_27 : decode cX7_check 27 = .ok (.iload_n 1, 1) := by decide +kernel
theorem dX7_check_28 : decode cX7_check 28 = .ok (.invokevirtual 235, 3) := by decide +kernel
theorem dX7_check_31 : decode cX7_check 31 = .ok (.aload_n 0, 1) := by decide +kernel
theorem dX7_check_32 : decode cX7_check 32 = .ok (.iload_n 1, 1) := by decide +kernel
theorem dX7_check_33 : decode cX7_check 33 = .ok (.invokevirtual 157, 3) := by decide +kernel
theorem dX7_check_36 : decode cX7_check 36 = .ok (.iadd, 1) := by decide +kernel
theorem dX7_check_37 : decode cX7_check 37 = .ok (.if_icmp .ne 7, 3) := by decide +kernel
theorem dX7_check_40 : decode cX7_check 40 = .ok (.iconst 1, 1) := by decide +kernel
theorem dX7_check_41 : decode cX7_check 41 = .ok (.goto 4, 3) := by decide +kernel
theorem dX7_check_44 : decode cX7_check 44 = .ok (.iconst 0, 1) := by decide +kernel
theorem dX7_check_45 : decode cX7_check 45 = .ok (.ireturn, 1) := by decide +kernel
theorem dX7_count_0 : decode cX7_count 0 = .ok (.iload_n 1, 1) := by decide +kernel
theorem dX7_count_1 : decode cX7_count 1 = .ok (.tableswitch 114 0 8 #[51, 56, 61, 66, 74, 82, 90, 98, 106], 51) := by decide +kernel
theorem dX7_count_52 : decode cX7_count 52 = .ok (.aload_n 0, 1) := by decide +kernel
theorem dX7_count_53 : decode cX7_count 53 = .ok (.getfield 60, 3) := by decide +kernel
theorem dX7_count_56 : decode cX7_count 56 = .ok (.ireturn, 1) := by decide +kernel
theorem dX7_count_57 : decode cX7_count 57 = .ok (.aload_n 0, 1) := by decide +kernel
theorem dX7_count_58 : decode cX7_count 58 = .ok (.getfield 64, 3) := by decide +kernel
theorem dX7_count_61 : decode cX7_count 61 = .ok (.ireturn, 1) := by decide +kernel
theorem dX7_count_62 : decode cX7_count 62 = .ok (.aload_n 0, 1) := by decide +kernel
theorem dX7_count_63 : decode cX7_count 63 = .ok (.getfield 67, 3) := by decide +kernel
theorem dX7_count_66 : decode cX7_count 66 = .ok (.ireturn, 1) := by decide +kernel
theorem dX7_count_67 : decode cX7_count 67 = .ok (.aload_n 0, 1) := by decide +kernel
theorem dX7_count_68 : decode cX7_count 68 = .ok (.getfield 35, 3) := by decide +kernel
theorem dX7_count_71 : decode cX7_count 71 = .ok (.getfield 122, 3) := by decide +kernel
theorem dX7_count_74 : decode cX7_count 74 = .ok (.ireturn, 1) := by decide +kernel
theorem dX7_count_75 : decode cX7_count 75 = .ok (.aload_n 0, 1) := by decide +kernel
theorem dX7_count_76 : decode cX7_count 76 = .ok (.getfield 42, 3) := by decide +kernel
theorem dX7_count_79 : decode cX7_count 79 = .ok (.getfield 103, 3) := by decide +kernel
theorem dX7_count_82 : decode cX7_count 82 = .ok (.ireturn, 1) := by decide +kernel
theorem dX7_count_83 : decode cX7_count 83 = .ok (.aload_n 0, 1) := by decide +kernel
theorem dX7_count_84 : decode cX7_count 84 = .ok (.getfield 42, 3) := by decide +kernel
theorem dX7_count_87 : decode cX7_count 87 = .ok (.invokevirtual 238, 3) := by decide +kernel
theorem dX7_count_90 : decode cX7_count 90 = .ok (.ireturn, 1) := by decide +kernel
theorem dX7_count_91 : decode cX7_count 91 = .ok (.aload_n 0, 1) := by decide +kernel
theorem dX7_count_92 : decode cX7_count 92 = .ok (.getfield 42, 3) := by decide +kernel
theorem dX7_count_95 : decode cX7_count 95 = .ok (.getfield 125, 3) := by decide +kernel
theorem dX7_count_98 : decode cX7_count 98 = .ok (.ireturn, 1) := by decide +kernel
theorem dX7_count_99 : decode cX7_count 99 = .ok (.aload_n 0, 1) := by decide +kernel
theorem dX7_count_100 : decode cX7_count 100 = .ok (.getfield 42, 3) := by decide +kernel
theorem dX7_count_103 : decode cX7_count 103 = .ok (.invokevirtual 241, 3) := by decide +kernel
theorem dX7_count_106 : decode cX7_count 106 = .ok (.ireturn, 1) := by decide +kernel
theorem dX7_count_107 : decode cX7_count 107 = .ok (.aload_n 0, 1) := by decide +kernel
theorem dX7_count_108 : decode cX7_count 108 = .ok (.getfield 35, 3) := by decide +kernel
theorem dX7_count_111 : decode cX7_count 111 = .ok (.getfield 171, 3) := by decide +kernel
theorem dX7_count_114 : decode cX7_count 114 = .ok (.ireturn, 1) := by decide +kernel
theorem dX7_count_115 : decode cX7_count 115 = .ok (.aload_n 0, 1) := by decide +kernel
theorem dX7_count_116 : decode cX7_count 116 = .ok (.bipush 10, 2) := by decide +kernel
theorem dX7_count_118 : decode cX7_count 118 = .ok (.iload_n 1, 1) := by decide +kernel
theorem dX7_count_119 : decode cX7_count 119 = .ok (.isub, 1) := by decide +kernel
theorem dX7_count_120 : decode cX7_count 120 = .ok (.invokevirtual 244, 3) := by decide +kernel
theorem dX7_count_123 : decode cX7_count 123 = .ok (.ireturn, 1) := by decide +kernel
theorem dX7_isHouse_0 : decode cX7_isHouse 0 = .ok (.iload_n 1, 1) := by decide +kernel
theorem dX7_isHouse_1 : decode cX7_isHouse 1 = .ok (.ifCond .lt 15, 3) := by decide +kernel
theorem dX7_isHouse_4 : decode cX7_isHouse 4 = .ok (.iload_n 1, 1) := by decide +kernel
theorem dX7_isHouse_5 : decode cX7_isHouse 5 = .ok (.aload_n 0, 1) := by decide +kernel
theorem dX7_isHouse_6 : decode cX7_isHouse 6 = .ok (.getfield 64, 3) := by decide +kernel
theorem dX7_isHouse_9 : decode cX7_isHouse 9 = .ok (.if_icmp .ge 7, 3) := by decide +kernel
theorem dX7_isHouse_12 : decode cX7_isHouse 12 = .ok (.iconst 1, 1) := by decide +kernel
theorem dX7_isHouse_13 : decode cX7_isHouse 13 = .ok (.goto 4, 3) := by decide +kernel
theorem dX7_isHouse_16 : decode cX7_isHouse 16 = .ok (.iconst 0, 1) := by decide +kernel
theorem dX7_isHouse_17 : decode cX7_isHouse 17 = .ok (.ireturn, 1) := by decide +kernel
theorem dX7_areTwoHouses_0 : decode cX7_areTwoHouses 0 = .ok (.aload_n 0, 1) := by decide +kernel
theorem dX7_areTwoHouses_1 : decode cX7_areTwoHouses 1 = .ok (.iload_n 1, 1) := by decide +kernel
theorem dX7_areTwoHouses_2 : decode cX7_areTwoHouses 2 = .ok (.invokevirtual 77, 3) := by decide +kernel
theorem dX7_areTwoHouses_5 : decode cX7_areTwoHouses 5 = .ok (.ifCond .eq 20, 3) := by decide +kernel
theorem dX7_areTwoHouses_8 : decode cX7_areTwoHouses 8 = .ok (.aload_n 0, 1) := by decide +kernel
theorem dX7_areTwoHouses_9 : decode cX7_areTwoHouses 9 = .ok (.iload_n 2, 1) := by decide +kernel
theorem dX7_areTwoHouses_10 : decode cX7_areTwoHouses 10 = .ok (.invokevirtual 77, 3) := by decide +kernel
theorem dX7_areTwoHouses_13 : decode cX7_areTwoHouses 13 = .ok (.ifCond .eq 12, 3) := by decide +kernel
theorem dX7_areTwoHouses_16 : decode cX7_areTwoHouses 16 = .ok (.iload_n 1, 1) := by decide +kernel
theorem dX7_areTwoHouses_17 : decode cX7_areTwoHouses 17 = .ok (.iload_n 2, 1) := by decide +kernel
theorem dX7_areTwoHouses_18 : decode cX7_areTwoHouses 18 = .ok (.if_icmp .eq 7, 3) := by decide +kernel
theorem dX7_areTwoHouses_21 : decode cX7_areTwoHouses 21 = .ok (.iconst 1, 1) := by decide +kernel
theorem dX7_areTwoHouses_22 : decode cX7_areTwoHouses 22 = .ok (.goto 4, 3) := by decide +kernel
theorem dX7_areTwoHouses_25 : decode cX7_areTwoHouses 25 = .ok (.iconst 0, 1) := by decide +kernel
theorem dX7_areTwoHouses_26 : decode cX7_areTwoHouses 26 = .ok (.ireturn, 1) := by decide +kernel
theorem dX7_isKind_0 : decode cX7_isKind 0 = .ok (.iload_n 1, 1) := by decide +kernel
theorem dX7_isKind_1 : decode cX7_isKind 1 = .ok (.ifCond .lt 15, 3) := by decide +kernel
theorem dX7_isKind_4 : decode cX7_isKind 4 = .ok (.iload_n 1, 1) := by decide +kernel
theorem dX7_isKind_5 : decode cX7_isKind 5 = .ok (.aload_n 0, 1) := by decide +kernel
theorem dX7_isKind_6 : decode cX7_isKind 6 = .ok (.getfield 67, 3) := by decide +kernel
theorem dX7_isKind_9 : decode cX7_isKind 9 = .ok (.if_icmp .ge 7, 3) := by decide +kernel
theorem dX7_isKind_12 : decode cX7_isKind 12 = .ok (.iconst 1, 1) := by decide +kernel
theorem dX7_isKind_13 : decode cX7_isKind 13 = .ok (.goto 4, 3) := by decide +kernel
theorem dX7_isKind_16 : decode cX7_isKind 16 = .ok (.iconst 0, 1) := by decide +kernel
theorem dX7_isKind_17 : decode cX7_isKind 17 = .ok (.ireturn, 1) := by decide +kernel
theorem dX7_whyNoMonth_0 : decode cX7_whyNoMonth 0 = .ok (.aload_n 0, 1) := by decide +kernel
theorem dX7_whyNoMonth_1 : decode cX7_whyNoMonth 1 = .ok (.iload_n 1, 1) := by decide +kernel
theorem dX7_whyNoMonth_2 : decode cX7_whyNoMonth 2 = .ok (.invokevirtual 77, 3) := by decide +kernel
theorem dX7_whyNoMonth_5 : decode cX7_whyNoMonth 5 = .ok (.ifCond .ne 5, 3) := by decide +kernel
theorem dX7_whyNoMonth_8 : decode cX7_whyNoMonth 8 = .ok (.iconst (-1), 1) := by decide +kernel
theorem dX7_whyNoMonth_9 : decode cX7_whyNoMonth 9 = .ok (.ireturn, 1) := by decide +kernel
theorem dX7_whyNoMonth_10 : decode cX7_whyNoMonth 10 = .ok (.iload_n 2, 1) := by decide +kernel
theorem dX7_whyNoMonth_11 : decode cX7_whyNoMonth 11 = .ok (.ifCond .ge 6, 3) := by decide +kernel
theorem dX7_whyNoMonth_14 : decode cX7_whyNoMonth 14 = .ok (.bipush (-4), 2) := by decide +kernel
theorem dX7_whyNoMonth_16 : decode cX7_whyNoMonth 16 = .ok (.ireturn, 1) := by decide +kernel
theorem dX7_whyNoMonth_17 : decode cX7_whyNoMonth 17 = .ok (.iload_n 2, 1) := by decide +kernel
theorem dX7_whyNoMonth_18 : decode cX7_whyNoMonth 18 = .ok (.bipush 20, 2) := by decide +kernel
theorem dX7_whyNoMonth_20 : decode cX7_whyNoMonth 20 = .ok (.if_icmp .lt 8, 3) := by decide +kernel
theorem dX7_whyNoMonth_23 : decode cX7_whyNoMonth 23 = .ok (.bipush (-6), 2) := by decide +kernel
theorem dX7_whyNoMonth_25 : decode cX7_whyNoMonth 25 = .ok (.goto 4, 3) := by decide +kernel
theorem dX7_whyNoMonth_28 : decode cX7_whyNoMonth 28 = .ok (.iconst 0, 1) := by decide +kernel
theorem dX7_whyNoMonth_29 : decode cX7_whyNoMonth 29 = .ok (.ireturn, 1) := by decide +kernel
theorem dX7_refuse_0 : decode cX7_refuse 0 = .ok (.iload_n 1, 1) := by decide +kernel
theorem dX7_refuse_1 : decode cX7_refuse 1 = .ok (.bipush (-6), 2) := by decide +kernel
theorem dX7_refuse_3 : decode cX7_refuse 3 = .ok (.if_icmp .lt 19, 3) := by decide +kernel
theorem dX7_refuse_6 : decode cX7_refuse 6 = .ok (.iload_n 1, 1) := by decide +kernel
theorem dX7_refuse_7 : decode cX7_refuse 7 = .ok (.iconst (-1), 1) := by decide +kernel
theorem dX7_refuse_8 : decode cX7_refuse 8 = .ok (.if_icmp .gt 14, 3) := by decide +kernel
theorem dX7_refuse_11 : decode cX7_refuse 11 = .ok (.aload_n 0, 1) := by decide +kernel
theorem dX7_refuse_12 : decode cX7_refuse 12 = .ok (.getfield 25, 3) := by decide +kernel
theorem dX7_refuse_15 : decode cX7_refuse 15 = .ok (.iload_n 1, 1) := by decide +kernel
theorem dX7_refuse_16 : decode cX7_refuse 16 = .ok (.ineg, 1) := by decide +kernel
theorem dX7_refuse_17 : decode cX7_refuse 17 = .ok (.dup2, 1) := by decide +kernel
theorem dX7_refuse_18 : decode cX7_refuse 18 = .ok (.iaload, 1) := by decide +kernel
theorem dX7_refuse_19 : decode cX7_refuse 19 = .ok (.iconst 1, 1) := by decide +kernel
theorem dX7_refuse_20 : decode cX7_refuse 20 = .ok (.iadd, 1) := by decide +kernel
theorem dX7_refuse_21 : decode cX7_refuse 21 = .ok (.iastore, 1) := by decide +kernel
theorem dX7_refuse_22 : decode cX7_refuse 22 = .ok (.iload_n 1, 1) := by decide +kernel
theorem dX7_refuse_23 : decode cX7_refuse 23 = .ok (.ireturn, 1) := by decide +kernel
theorem dX7_refuseAmount_0 : decode cX7_refuseAmount 0 = .ok (.ldc 247, 2) := by decide +kernel
theorem dX7_refuseAmount_2 : decode cX7_refuseAmount 2 = .ok (.aload_n 0, 1) := by decide +kernel
theorem dX7_refuseAmount_3 : decode cX7_refuseAmount 3 = .ok (.iload_n 1, 1) := by decide +kernel
theorem dX7_refuseAmount_4 : decode cX7_refuseAmount 4 = .ok (.invokevirtual 73, 3) := by decide +kernel
theorem dX7_refuseAmount_7 : decode cX7_refuseAmount 7 = .ok (.isub, 1) := by decide +kernel
theorem dX7_refuseAmount_8 : decode cX7_refuseAmount 8 = .ok (.ireturn, 1) := by decide +kernel
theorem dX7_refusalsOf_0 : decode cX7_refusalsOf 0 = .ok (.iload_n 1, 1) := by decide +kernel
theorem dX7_refusalsOf_1 : decode cX7_refusalsOf 1 = .ok (.bipush (-6), 2) := by decide +kernel
theorem dX7_refusalsOf_3 : decode cX7_refusalsOf 3 = .ok (.if_icmp .lt 8, 3) := by decide +kernel
theorem dX7_refusalsOf_6 : decode cX7_refusalsOf 6 = .ok (.iload_n 1, 1) := by decide +kernel
theorem dX7_refusalsOf_7 : decode cX7_refusalsOf 7 = .ok (.iconst (-1), 1) := by decide +kernel
theorem dX7_refusalsOf_8 : decode cX7_refusalsOf 8 = .ok (.if_icmp .le 6, 3) := by decide +kernel
theorem dX7_refusalsOf_11 : decode cX7_refusalsOf 11 = .ok (.bipush (-9), 2) := by decide +kernel
theorem dX7_refusalsOf_13 : decode cX7_refusalsOf 13 = .ok (.ireturn, 1) := by decide +kernel
theorem dX7_refusalsOf_14 : decode cX7_refusalsOf 14 = .ok (.aload_n 0, 1) := by decide +kernel
theorem dX7_refusalsOf_15 : decode cX7_refusalsOf 15 = .ok (.getfield 25, 3) := by decide +kernel
theorem dX7_refusalsOf_18 : decode cX7_refusalsOf 18 = .ok (.iload_n 1, 1) := by decide +kernel
theorem dX7_refusalsOf_19 : decode cX7_refusalsOf 19 = .ok (.ineg, 1) := by decide +kernel
theorem dX7_refusalsOf_20 : decode cX7_refusalsOf 20 = .ok (.iaload, 1) := by decide +kernel
theorem dX7_refusalsOf_21 : decode cX7_refusalsOf 21 = .ok (.ireturn, 1) := by decide +kernel
theorem dX7_enterMove_0 : decode cX7_enterMove 0 = .ok (.aload_n 1, 1) := by decide +kernel
theorem dX7_enterMove_1 : decode cX7_enterMove 1 = .ok (.getfield 201, 3) := by decide +kernel
theorem dX7_enterMove_4 : decode cX7_enterMove 4 = .ok (.astore_n 3, 1) := by decide +kernel
theorem dX7_enterMove_5 : decode cX7_enterMove 5 = .ok (.aload_n 0, 1) := by decide +kernel
theorem dX7_enterMove_6 : decode cX7_enterMove 6 = .ok (.getfield 35, 3) := by decide +kernel
theorem dX7_enterMove_9 : decode cX7_enterMove 9 = .ok (.aload_n 3, 1) := by decide +kernel
theorem dX7_enterMove_10 : decode cX7_enterMove 10 = .ok (.getfield 177, 3) := by decide +kernel
theorem dX7_enterMove_13 : decode cX7_enterMove 13 = .ok (.aload_n 3, 1) := by decide +kernel
theorem dX7_enterMove_14 : decode cX7_enterMove 14 = .ok (.getfield 183, 3) := by decide +kernel
theorem dX7_enterMove_17 : decode cX7_enterMove 17 = .ok (.aload_n 3, 1) := by decide +kernel
theorem dX7_enterMove_18 : decode cX7_enterMove 18 = .ok (.getfield 189, 3) := by decide +kernel
theorem dX7_enterMove_21 : decode cX7_enterMove 21 = .ok (.iload_n 2, 1) := by decide +kernel
theorem dX7_enterMove_22 : decode cX7_enterMove 22 = .ok (.ineg, 1) := by decide +kernel
theorem dX7_enterMove_23 : decode cX7_enterMove 23 = .ok (.invokevirtual 91, 3) := by decide +kernel
theorem dX7_enterMove_26 : decode cX7_enterMove 26 = .ok (.aload_n 0, 1) := by decide +kernel
theorem dX7_enterMove_27 : decode cX7_enterMove 27 = .ok (.getfield 35, 3) := by decide +kernel
theorem dX7_enterMove_30 : decode cX7_enterMove 30 = .ok (.aload_n 3, 1) := by decide +kernel
theorem dX7_enterMove_31 : decode cX7_enterMove 31 = .ok (.getfield 180, 3) := by decide +kernel
theorem dX7_enterMove_34 : decode cX7_enterMove 34 = .ok (.aload_n 3, 1) := by decide +kernel
theorem dX7_enterMove_35 : decode cX7_enterMove 35 = .ok (.getfield 183, 3) := by decide +kernel
theorem dX7_enterMove_38 : decode cX7_enterMove 38 = .ok (.aload_n 3, 1) := by decide +kernel
theorem dX7_enterMove_39 : decode cX7_enterMove 39 = .ok (.getfield 189, 3) := by decide +kernel
theorem dX7_enterMove_42 : decode cX7_enterMove 42 = .ok (.iload_n 2, 1) := by decide +kernel
theorem dX7_enterMove_43 : decode cX7_enterMove 43 = .ok (.invokevirtual 91, 3) := by decide +kernel
theorem dX7_enterMove_46 : decode cX7_enterMove 46 = .ok (.return_, 1) := by decide +kernel
theorem dX7_missingOfKind_0 : decode cX7_missingOfKind 0 = .ok (.iconst 0, 1) := by decide +kernel
theorem dX7_missingOfKind_1 : decode cX7_missingOfKind 1 = .ok (.istore_n 2, 1) := by decide +kernel
theorem dX7_missingOfKind_2 : decode cX7_missingOfKind 2 = .ok (.iconst 0, 1) := by decide +kernel
theorem dX7_missingOfKind_3 : decode cX7_missingOfKind 3 = .ok (.istore_n 3, 1) := by decide +kernel
theorem dX7_missingOfKind_4 : decode cX7_missingOfKind 4 = .ok (.iload_n 3, 1) := by decide +kernel
theorem dX7_missingOfKind_5 : decode cX7_missingOfKind 5 = .ok (.aload_n 0, 1) := by decide +kernel
theorem dX7_missingOfKind_6 : decode cX7_missingOfKind 6 = .ok (.getfield 64, 3) := by decide +kernel
theorem dX7_missingOfKind_9 : decode cX7_missingOfKind 9 = .ok (.if_icmp .ge 23, 3) := by decide +kernel
theorem dX7_missingOfKind_12 : decode cX7_missingOfKind 12 = .ok (.iload_n 2, 1) := by decide +kernel
theorem dX7_missingOfKind_13 : decode cX7_missingOfKind 13 = .ok (.aload_n 0, 1) := by decide +kernel
theorem dX7_missingOfKind_14 : decode cX7_missingOfKind 14 = .ok (.getfield 22, 3) := by decide +kernel
theorem dX7_missingOfKind_17 : decode cX7_missingOfKind 17 = .ok (.iload_n 3, 1) := by decide +kernel
theorem dX7_missingOfKind_18 : decode cX7_missingOfKind 18 = .ok (.bipush 6, 2) := by decide +kernel
theorem dX7_missingOfKind_20 : decode cX7_missingOfKind 20 = .ok (.imul, 1) := by decide +kernel
theorem dX7_missingOfKind_21 : decode cX7_missingOfKind 21 = .ok (.iload_n 1, 1) := by decide +kernel
theorem dX7_missingOfKind_22 : decode cX7_missingOfKind 22 = .ok (.iadd, 1) := by decide +kernel
theorem dX7_missingOfKind_23 : decode cX7_missingOfKind 23 = .ok (.iaload, 1) := by decide +kernel
theorem dX7_missingOfKind_24 : decode cX7_missingOfKind 24 = .ok (.iadd, 1) := by decide +kernel
theorem dX7_missingOfKind_25 : decode cX7_missingOfKind 25 = .ok (.istore_n 2, 1) := by decide +kernel
theorem dX7_missingOfKind_26 : decode cX7_missingOfKind 26 = .ok (.iinc 3 1, 3) := by decide +kernel
theorem dX7_missingOfKind_29 : decode cX7_missingOfKind 29 = .ok (.goto (-25), 3) := by decide +kernel
theorem dX7_missingOfKind_32 : decode cX7_missingOfKind 32 = .ok (.iload_n 2, 1) := by decide +kernel
theorem dX7_missingOfKind_33 : decode cX7_missingOfKind 33 = .ok (.ireturn, 1) := by decide +kernel
theorem dX7_shareOf_0 : decode cX7_shareOf 0 = .ok (.lconst 0, 1) := by decide +kernel
theorem dX7_shareOf_1 : decode cX7_shareOf 1 = .ok (.lstore 5, 2) := by decide +kernel
theorem dX7_shareOf_3 : decode cX7_shareOf 3 = .ok (.iconst 0, 1) := by decide +kernel
theorem dX7_shareOf_4 : decode cX7_shareOf 4 = .ok (.istore 7, 2) := by decide +kernel
theorem dX7_shareOf_6 : decode cX7_shareOf 6 = .ok (.iload 7, 2) := by decide +kernel
theorem dX7_shareOf_8 : decode cX7_shareOf 8 = .ok (.aload_n 0, 1) := by decide +kernel
theorem dX7_shareOf_9 : decode cX7_shareOf 9 = .ok (.getfield 64, 3) := by decide +kernel
theorem dX7_shareOf_12 : decode cX7_shareOf 12 = .ok (.if_icmp .ge 25, 3) := by decide +kernel
theorem dX7_shareOf_15 : decode cX7_shareOf 15 = .ok (.lload 5, 2) := by decide +kernel
theorem dX7_shareOf_17 : decode cX7_shareOf 17 = .ok (.aload_n 0, 1) := by decide +kernel
theorem dX7_shareOf_18 : decode cX7_shareOf 18 = .ok (.getfield 42, 3) := by decide +kernel
theorem dX7_shareOf_21 : decode cX7_shareOf 21 = .ok (.iload 7, 2) := by decide +kernel
theorem dX7_shareOf_23 : decode cX7_shareOf 23 = .ok (.iload_n 2, 1) := by decide +kernel
theorem dX7_shareOf_24 : decode cX7_shareOf 24 = .ok (.invokevirtual 153, 3) := by decide +kernel
theorem dX7_shareOf_27 : decode cX7_shareOf 27 = .ok (.i2l, 1) := by decide +kernel
theorem dX7_shareOf_28 : decode cX7_shareOf 28 = .ok (.ladd, 1) := by decide +kernel
theorem dX7_shareOf_29 : decode cX7_shareOf 29 = .ok (.lstore 5, 2) := by decide +kernel
theorem dX7_shareOf_31 : decode cX7_shareOf 31 = .ok (.iinc 7 1, 3) := by decide +kernel
theorem dX7_shareOf_34 : decode cX7_shareOf 34 = .ok (.goto (-28), 3) := by decide +kernel
theorem dX7_shareOf_37 : decode cX7_shareOf 37 = .ok (.lload_n 3, 1) := by decide +kernel
theorem dX7_shareOf_38 : decode cX7_shareOf 38 = .ok (.lconst 0, 1) := by decide +kernel
theorem dX7_shareOf_39 : decode cX7_shareOf 39 = .ok (.lcmp, 1) := by decide +kernel
theorem dX7_shareOf_40 : decode cX7_shareOf 40 = .ok (.ifCond .le 10, 3) := by decide +kernel
theorem dX7_shareOf_43 : decode cX7_shareOf 43 = .ok (.lload 5, 2) := by decide +kernel
theorem dX7_shareOf_45 : decode cX7_shareOf 45 = .ok (.lconst 0, 1) := by decide +kernel
theorem dX7_shareOf_46 : decode cX7_shareOf 46 = .ok (.lcmp, 1) := by decide +kernel
theorem dX7_shareOf_47 : decode cX7_shareOf 47 = .ok (.ifCond .gt 5, 3) := by decide +kernel
theorem dX7_shareOf_50 : decode cX7_shareOf 50 = .ok (.iconst 0, 1) := by decide +kernel
theorem dX7_shareOf_51 : decode cX7_shareOf 51 = .ok (.ireturn, 1) := by decide +kernel
theorem dX7_shareOf_52 : decode cX7_shareOf 52 = .ok (.lload_n 3, 1) := by decide +kernel
theorem dX7_shareOf_53 : decode cX7_shareOf 53 = .ok (.aload_n 0, 1) := by decide +kernel
theorem dX7_shareOf_54 : decode cX7_shareOf 54 = .ok (.getfield 42, 3) := by decide +kernel
theorem dX7_shareOf_57 : decode cX7_shareOf 57 = .ok (.iload_n 1, 1) := by decide +kernel
theorem dX7_shareOf_58 : decode cX7_shareOf 58 = .ok (.iload_n 2, 1) := by decide +kernel
theorem dX7_shareOf_59 : decode cX7_shareOf 59 = .ok (.invokevirtual 153, 3) := by decide +kernel
theorem dX7_shareOf_62 : decode cX7_shareOf 62 = .ok (.i2l, 1) := by decide +kernel
theorem dX7_shareOf_63 : decode cX7_shareOf 63 = .ok (.lmul, 1) := by decide +kernel
theorem dX7_shareOf_64 : decode cX7_shareOf 64 = .ok (.lstore 7, 2) := by decide +kernel
theorem dX7_shareOf_66 : decode cX7_shareOf 66 = .ok (.lload_n 3, 1) := by decide +kernel
theorem dX7_shareOf_67 : decode cX7_shareOf 67 = .ok (.lstore 9, 2) := by decide +kernel
theorem dX7_shareOf_69 : decode cX7_shareOf 69 = .ok (.iconst 0, 1) := by decide +kernel
theorem dX7_shareOf_70 : decode cX7_shareOf 70 = .ok (.istore 11, 2) := by decide +kernel
theorem dX7_shareOf_72 : decode cX7_shareOf 72 = .ok (.iconst 0, 1) := by decide +kernel
theorem dX7_shareOf_73 : decode cX7_shareOf 73 = .ok (.istore 12, 2) := by decide +kernel
theorem dX7_shareOf_75 : decode cX7_shareOf 75 = .ok (.iload 12, 2) := by decide +kernel
theorem dX7_shareOf_77 : decode cX7_shareOf 77 = .ok (.aload_n 0, 1) := by decide +kernel
theorem dX7_shareOf_78 : decode cX7_shareOf 78 = .ok (.getfield 64, 3) := by decide +kernel
theorem dX7_shareOf_81 : decode cX7_shareOf 81 = .ok (.if_icmp .ge 56, 3) := by decide +kernel
theorem dX7_shareOf_84 : decode cX7_shareOf 84 = .ok (.lload_n 3, 1) := by decide +kernel
theorem dX7_shareOf_85 : decode cX7_shareOf 85 = .ok (.aload_n 0, 1) := by decide +kernel
theorem dX7_shareOf_86 : decode cX7_shareOf 86 = .ok (.getfield 42, 3) := by decide +kernel
theorem dX7_shareOf_89 : decode cX7_shareOf 89 = .ok (.iload 12, 2) := by decide +kernel
theorem dX7_shareOf_91 : decode cX7_shareOf 91 = .ok (.iload_n 2, 1) := by decide +kernel
theorem dX7_shareOf_92 : decode cX7_shareOf 92 = .ok (.invokevirtual 153, 3) := by decide +kernel
theorem dX7_shareOf_95 : decode cX7_shareOf 95 = .ok (.i2l, 1) := by decide +kernel
theorem dX7_shareOf_96 : decode cX7_shareOf 96 = .ok (.lmul, 1) := by decide +kernel
theorem dX7_shareOf_97 : decode cX7_shareOf 97 = .ok (.lstore 13, 2) := by decide +kernel
theorem dX7_shareOf_99 : decode cX7_shareOf 99 = .ok (.lload 9, 2) := by decide +kernel
theorem dX7_shareOf_101 : decode cX7_shareOf 101 = .ok (.lload 13, 2) := by decide +kernel
theorem dX7_shareOf_103 : decode cX7_shareOf 103 = .ok (.lload 5, 2) := by decide +kernel
theorem dX7_shareOf_105 : decode cX7_shareOf 105 = .ok (.ldiv, 1) := by decide +kernel
theorem dX7_shareOf_106 : decode cX7_shareOf 106 = .ok (.lsub, 1) := by decide +kernel
theorem dX7_shareOf_107 : decode cX7_shareOf 107 = .ok (.lstore 9, 2) := by decide +kernel
theorem dX7_shareOf_109 : decode cX7_shareOf 109 = .ok (.lload 13, 2) := by decide +kernel
theorem dX7_shareOf_111 : decode cX7_shareOf 111 = .ok (.lload 5, 2) := by decide +kernel
theorem dX7_shareOf_113 : decode cX7_shareOf 113 = .ok (.lrem, 1) := by decide +kernel
theorem dX7_shareOf_114 : decode cX7_shareOf 114 = .ok (.iload 12, 2) := by decide +kernel
theorem dX7_shareOf_116 : decode cX7_shareOf 116 = .ok (.lload 7, 2) := by decide +kernel
theorem dX7_shareOf_118 : decode cX7_shareOf 118 = .ok (.lload 5, 2) := by decide +kernel
theorem dX7_shareOf_120 : decode cX7_shareOf 120 = .ok (.lrem, 1) := by decide +kernel
theorem dX7_shareOf_121 : decode cX7_shareOf 121 = .ok (.iload_n 1, 1) := by decide +kernel
theorem dX7_shareOf_122 : decode cX7_shareOf 122 = .ok (.invokestatic 248, 3) := by decide +kernel
theorem dX7_shareOf_125 : decode cX7_shareOf 125 = .ok (.ifCond .eq 6, 3) := by decide +kernel
theorem dX7_shareOf_128 : decode cX7_shareOf 128 = .ok (.iinc 11 1, 3) := by decide +kernel
theorem dX7_shareOf_131 : decode cX7_shareOf 131 = .ok (.iinc 12 1, 3) := by decide +kernel
theorem dX7_shareOf_134 : decode cX7_shareOf 134 = .ok (.goto (-59), 3) := by decide +kernel
theorem dX7_shareOf_137 : decode cX7_shareOf 137 = .ok (.lload 7, 2) := by decide +kernel
theorem dX7_shareOf_139 : decode cX7_shareOf 139 = .ok (.lload 5, 2) := by decide +kernel
theorem dX7_shareOf_141 : decode cX7_shareOf 141 = .ok (.ldiv, 1) := by decide +kernel
theorem dX7_shareOf_142 : decode cX7_shareOf 142 = .ok (.lstore 12, 2) := by decide +kernel
theorem dX7_shareOf_144 : decode cX7_shareOf 144 = .ok (.iload 11, 2) := by decide +kernel
theorem dX7_shareOf_146 : decode cX7_shareOf 146 = .ok (.i2l, 1) := by decide +kernel
theorem dX7_shareOf_147 : decode cX7_shareOf 147 = .ok (.lload 9, 2) := by decide +kernel
theorem dX7_shareOf_149 : decode cX7_shareOf 149 = .ok (.lcmp, 1) := by decide +kernel
theorem dX7_shareOf_150 : decode cX7_shareOf 150 = .ok (.ifCond .ge 10, 3) := by decide +kernel
theorem dX7_shareOf_153 : decode cX7_shareOf 153 = .ok (.lload 12, 2) := by decide +kernel
theorem dX7_shareOf_155 : decode cX7_shareOf 155 = .ok (.lconst 1, 1) := by decide +kernel
theorem dX7_shareOf_156 : decode cX7_shareOf 156 = .ok (.ladd, 1) := by decide +kernel
theorem dX7_shareOf_157 : decode cX7_shareOf 157 = .ok (.goto 5, 3) := by decide +kernel
theorem dX7_shareOf_160 : decode cX7_shareOf 160 = .ok (.lload 12, 2) := by decide +kernel
theorem dX7_shareOf_162 : decode cX7_shareOf 162 = .ok (.l2i, 1) := by decide +kernel
theorem dX7_shareOf_163 : decode cX7_shareOf 163 = .ok (.ireturn, 1) := by decide +kernel
theorem dX7_isAhead_0 : decode cX7_isAhead 0 = .ok (.lload_n 0, 1) := by decide +kernel
theorem dX7_isAhead_1 : decode cX7_isAhead 1 = .ok (.lload_n 3, 1) := by decide +kernel
theorem dX7_isAhead_2 : decode cX7_isAhead 2 = .ok (.lcmp, 1) := by decide +kernel
theorem dX7_isAhead_3 : decode cX7_isAhead 3 = .ok (.ifCond .gt 15, 3) := by decide +kernel
theorem dX7_isAhead_6 : decode cX7_isAhead 6 = .ok (.lload_n 0, 1) := by decide +kernel
theorem dX7_isAhead_7 : decode cX7_isAhead 7 = .ok (.lload_n 3, 1) := by decide +kernel
theorem dX7_isAhead_8 : decode cX7_isAhead 8 = .ok (.lcmp, 1) := by decide +kernel
theorem dX7_isAhead_9 : decode cX7_isAhead 9 = .ok (.ifCond .ne 13, 3) := by decide +kernel
theorem dX7_isAhead_12 : decode cX7_isAhead 12 = .ok (.iload_n 2, 1) := by decide +kernel
theorem dX7_isAhead_13 : decode cX7_isAhead 13 = .ok (.iload 5, 2) := by decide +kernel
theorem dX7_isAhead_15 : decode cX7_isAhead 15 = .ok (.if_icmp .ge 7, 3) := by decide +kernel
theorem dX7_isAhead_18 : decode cX7_isAhead 18 = .ok (.iconst 1, 1) := by decide +kernel
theorem dX7_isAhead_19 : decode cX7_isAhead 19 = .ok (.goto 4, 3) := by decide +kernel
theorem dX7_isAhead_22 : decode cX7_isAhead 22 = .ok (.iconst 0, 1) := by decide +kernel
theorem dX7_isAhead_23 : decode cX7_isAhead 23 = .ok (.ireturn, 1) := by decide +kernel
theorem dX8_init_0 : decode cX8_init 0 = .ok (.aload_n 0, 1) := by decide +kernel
theorem dX8_init_1 : decode cX8_init 1 = .ok (.invokespecial 1, 3) := by decide +kernel
theorem dX8_init_4 : decode cX8_init 4 = .ok (.aload_n 0, 1) := by decide +kernel
theorem dX8_init_5 : decode cX8_init 5 = .ok (.bipush 6, 2) := by decide +kernel
theorem dX8_init_7 : decode cX8_init 7 = .ok (.newarray .int, 2) := by decide +kernel
theorem dX8_init_9 : decode cX8_init 9 = .ok (.putfield 7, 3) := by decide +kernel
theorem dX8_init_12 : decode cX8_init 12 = .ok (.aload_n 0, 1) := by decide +kernel
theorem dX8_init_13 : decode cX8_init 13 = .ok (.bipush 6, 2) := by decide +kernel
theorem dX8_init_15 : decode cX8_init 15 = .ok (.newarray .int, 2) := by decide +kernel
theorem dX8_init_17 : decode cX8_init 17 = .ok (.putfield 13, 3) := by decide +kernel
theorem dX8_init_20 : decode cX8_init 20 = .ok (.aload_n 0, 1) := by decide +kernel
theorem dX8_init_21 : decode cX8_init 21 = .ok (.sipush 2000, 3) := by decide +kernel
theorem dX8_init_24 : decode cX8_init 24 = .ok (.newarray .int, 2) := by decide +kernel
theorem dX8_init_26 : decode cX8_init 26 = .ok (.putfield 16, 3) := by decide +kernel
theorem dX8_init_29 : decode cX8_init 29 = .ok (.aload_n 0, 1) := by decide +kernel
theorem dX8_init_30 : decode cX8_init 30 = .ok (.sipush 2000, 3) := by decide +kernel
theorem dX8_init_33 : decode cX8_init 33 = .ok (.newarray .int, 2) := by decide +kernel
theorem dX8_init_35 : decode cX8_init 35 = .ok (.putfield 19, 3) := by decide +kernel
theorem dX8_init_38 : decode cX8_init 38 = .ok (.aload_n 0, 1) := by decide +kernel
theorem dX8_init_39 : decode cX8_init 39 = .ok (.sipush 2000, 3) := by decide +kernel
theorem dX8_init_42 : decode cX8_init 42 = .ok (.newarray .int, 2) := by decide +kernel
theorem dX8_init_44 : decode cX8_init 44 = .ok (.putfield 22, 3) := by decide +kernel
theorem dX8_init_47 : decode cX8_init 47 = .ok (.aload_n 0, 1) := by decide +kernel
theorem dX8_init_48 : decode cX8_init 48 = .ok (.sipush 2000, 3) := by decide +kernel
theorem dX8_init_51 : decode cX8_init 51 = .ok (.newarray .int, 2) := by decide +kernel
theorem dX8_init_53 : decode cX8_init 53 = .ok (.putfield 25, 3) := by decide +kernel
theorem dX8_init_56 : decode cX8_init 56 = .ok (.aload_n 0, 1) := by decide +kernel
theorem dX8_init_57 : decode cX8_init 57 = .ok (.bipush 6, 2) := by decide +kernel
theorem dX8_init_59 : decode cX8_init 59 = .ok (.newarray .long, 2) := by decide +kernel
theorem dX8_init_61 : decode cX8_init 61 = .ok (.putfield 28, 3) := by decide +kernel
theorem dX8_init_64 : decode cX8_init 64 = .ok (.aload_n 0, 1) := by decide +kernel
theorem dX8_init_65 : decode cX8_init 65 = .ok (.sipush 200, 3) := by decide +kernel
theorem dX8_init_68 : decode cX8_init 68 = .ok (.newarray .long, 2) := by decide +kernel
theorem dX8_init_70 : decode cX8_init 70 = .ok (.putfield 32, 3) := by decide +kernel
theorem dX8_init_73 : decode cX8_init 73 = .ok (.aload_n 0, 1) := by decide +kernel
theorem dX8_init_74 : decode cX8_init 74 = .ok (.sipush 400, 3) := by decide +kernel
theorem dX8_init_77 : decode cX8_init 77 = .ok (.newarray .boolean, 2) := by decide +kernel
theorem dX8_init_79 : decode cX8_init 79 = .ok (.putfield 35, 3) := by decide +kernel
theorem dX8_init_82 : decode cX8_init 82 = .ok (.aload_n 0, 1) := by decide +kernel
theorem dX8_init_83 : decode cX8_init 83 = .ok (.sipush 400, 3) := by decide +kernel
theorem dX8_init_86 : decode cX8_init 86 = .ok (.newarray .int, 2) := by decide +kernel
theorem dX8_init_88 : decode cX8_init 88 = .ok (.putfield 39, 3) := by decide +kernel
theorem dX8_init_91 : decode cX8_init 91 = .ok (.aload_n 0, 1) := by decide +kernel
theorem dX8_init_92 : decode cX8_init 92 = .ok (.sipush 400, 3) := by decide +kernel
theorem dX8_init_95 : decode cX8_init 95 = .ok (.newarray .int, 2) := by decide +kernel
theorem dX8_init_97 : decode cX8_init 97 = .ok (.putfield 42, 3) := by decide +kernel
theorem dX8_init_100 : decode cX8_init 100 = .ok (.aload_n 0, 1) := by decide +kernel
theorem dX8_init_101 : decode cX8_init 101 = .ok (.sipush 400, 3) := by decide +kernel
theorem dX8_init_104 : decode cX8_init 104 = .ok (.newarray .int, 2) := by decide +kernel
theorem dX8_init_106 : decode cX8_init 106 = .ok (.putfield 45, 3) := by decide +kernel
theorem dX8_init_109 : decode cX8_init 109 = .ok (.aload_n 0, 1) := by decide +kernel
theorem dX8_init_110 : decode cX8_init 110 = .ok (.sipush 400, 3) := by decide +kernel
theorem dX8_init_113 : decode cX8_init 113 = .ok (.newarray .int, 2) := by decide +kernel
theorem dX8_init_115 : decode cX8_init 115 = .ok (.putfield 48, 3) := by decide +kernel
theorem dX8_init_118 : decode cX8_init 118 = .ok (.aload_n 0, 1) := by decide +kernel
theorem dX8_init_119 : decode cX8_init 119 = .ok (.sipush 400, 3) := by decide +kernel
theorem dX8_init_122 : decode cX8_init 122 = .ok (.newarray .int, 2) := by decide +kernel
theorem dX8_init_124 : decode cX8_init 124 = .ok (.putfield 51, 3) := by decide +kernel
theorem dX8_init_127 : decode cX8_init 127 = .ok (.aload_n 0, 1) := by decide +kernel
theorem dX8_init_128 : decode cX8_init 128 = .ok (.sipush 400, 3) := by decide +kernel
theorem dX8_init_131 : decode cX8_init 131 = .ok (.newarray .int, 2) := by decide +kernel
theorem dX8_init_133 : decode cX8_init 133 = .ok (.putfield 54, 3) := by decide +kernel
theorem dX8_init_136 : decode cX8_init 136 = .ok (.aload_n 0, 1) := by decide +kernel
theorem dX8_init_137 : decode cX8_init 137 = .ok (.sipush 400, 3) := by decide +kernel
theorem dX8_init_140 : decode cX8_init 140 = .ok (.newarray .int, 2) := by decide +kernel
theorem dX8_init_142 : decode cX8_init 142 = .ok (.putfield 57, 3) := by decide +kernel
theorem dX8_init_145 : decode cX8_init 145 = .ok (.aload_n 0, 1) := by decide +kernel
theorem dX8_init_146 : decode cX8_init 146 = .ok (.sipush 200, 3) := by decide +kernel
theorem dX8_init_149 : decode cX8_init 149 = .ok (.newarray .int, 2) := by decide +kernel
theorem dX8_init_151 : decode cX8_init 151 = .ok (.putfield 60, 3) := by decide +kernel
theorem dX8_init_154 : decode cX8_init 154 = .ok (.aload_n 0, 1) := by decide +kernel
theorem dX8_init_155 : decode cX8_init 155 = .ok (.sipush 200, 3) := by decide +kernel
theorem dX8_init_158 : decode cX8_init 158 = .ok (.newarray .int, 2) := by decide +kernel
theorem dX8_init_160 : decode cX8_init 160 = .ok (.putfield 63, 3) := by decide +kernel
theorem dX8_init_163 : decode cX8_init 163 = .ok (.aload_n 0, 1) := by decide +kernel
theorem dX8_init_164 : decode cX8_init 164 = .ok (.sipush 200, 3) := by decide +kernel
theorem dX8_init_167 : decode cX8_init 167 = .ok (.newarray .int, 2) := by decide +kernel
theorem dX8_init_169 : decode cX8_init 169 = .ok (.putfield 66, 3) := by decide +kernel
theorem dX8_init_172 : decode cX8_init 172 = .ok (.aload_n 0, 1) := by decide +kernel
theorem dX8_init_173 : decode cX8_init 173 = .ok (.sipush 200, 3) := by decide +kernel
theorem dX8_init_176 : decode cX8_init 176 = .ok (.newarray .boolean, 2) := by decide +kernel
theorem dX8_init_178 : decode cX8_init 178 = .ok (.putfield 69, 3) := by decide +kernel
theorem dX8_init_181 : decode cX8_init 181 = .ok (.aload_n 0, 1) := by decide +kernel
theorem dX8_init_182 : decode cX8_init 182 = .ok (.bipush 60, 2) := by decide +kernel
theorem dX8_init_184 : decode cX8_init 184 = .ok (.newarray .int, 2) := by decide +kernel
theorem dX8_init_186 : decode cX8_init 186 = .ok (.putfield 72, 3) := by decide +kernel
theorem dX8_init_189 : decode cX8_init 189 = .ok (.aload_n 0, 1) := by decide +kernel
theorem dX8_init_190 : decode cX8_init 190 = .ok (.sipush 600, 3) := by decide +kernel
theorem dX8_init_193 : decode cX8_init 193 = .ok (.newarray .int, 2) := by decide +kernel
theorem dX8_init_195 : decode cX8_init 195 = .ok (.putfield 75, 3) := by decide +kernel
theorem dX8_init_198 : decode cX8_init 198 = .ok (.aload_n 0, 1) := by decide +kernel
theorem dX8_init_199 : decode cX8_init 199 = .ok (.bipush 10, 2) := by decide +kernel
theorem dX8_init_201 : decode cX8_init 201 = .ok (.newarray .int, 2) := by decide +kernel
theorem dX8_init_203 : decode cX8_init 203 = .ok (.putfield 78, 3) := by decide +kernel
theorem dX8_init_206 : decode cX8_init 206 = .ok (.aload_n 0, 1) := by decide +kernel
theorem dX8_init_207 : decode cX8_init 207 = .ok (.bipush 10, 2) := by decide +kernel
theorem dX8_init_209 : decode cX8_init 209 = .ok (.newarray .int, 2) := by decide +kernel
theorem dX8_init_211 : decode cX8_init 211 = .ok (.putfield 81, 3) := by decide +kernel
theorem dX8_init_214 : decode cX8_init 214 = .ok (.aload_n 0, 1) := by decide +kernel
theorem dX8_init_215 : decode cX8_init 215 = .ok (.bipush 100, 2) := by decide +kernel
theorem dX8_init_217 : decode cX8_init 217 = .ok (.newarray .int, 2) := by decide +kernel
theorem dX8_init_219 : decode cX8_init 219 = .ok (.putfield 84, 3) := by decide +kernel
theorem dX8_init_222 : decode cX8_init 222 = .ok (.aload_n 0, 1) := by decide +kernel
theorem dX8_init_223 : decode cX8_init 223 = .ok (.bipush 7, 2) := by decide +kernel
theorem dX8_init_225 : decode cX8_init 225 = .ok (.newarray .int, 2) := by decide +kernel
theorem dX8_init_227 : decode cX8_init 227 = .ok (.putfield 87, 3) := by decide +kernel
theorem dX8_init_230 : decode cX8_init 230 = .ok (.aload_n 0, 1) := by decide +kernel
theorem dX8_init_231 : decode cX8_init 231 = .ok (.bipush 8, 2) := by decide +kernel
theorem dX8_init_233 : decode cX8_init 233 = .ok (.newarray .int, 2) := by decide +kernel
theorem dX8_init_235 : decode cX8_init 235 = .ok (.putfield 90, 3) := by decide +kernel
theorem dX8_init_238 : decode cX8_init 238 = .ok (.aload_n 0, 1) := by decide +kernel
theorem dX8_init_239 : decode cX8_init 239 = .ok (.bipush 8, 2) := by decide +kernel
theorem dX8_init_241 : decode cX8_init 241 = .ok (.newarray .int, 2) := by decide +kernel
theorem dX8_init_243 : decode cX8_init 243 = .ok (.putfield 93, 3) := by decide +kernel
theorem dX8_init_246 : decode cX8_init 246 = .ok (.aload_n 0, 1) := by decide +kernel
theorem dX8_init_247 : decode cX8_init 247 = .ok (.sipush 2304, 3) := by decide +kernel
theorem dX8_init_250 : decode cX8_init 250 = .ok (.newarray .int, 2) := by decide +kernel
theorem dX8_init_252 : decode cX8_init 252 = .ok (.putfield 96, 3) := by decide +kernel
theorem dX8_init_255 : decode cX8_init 255 = .ok (.aload_n 0, 1) := by decide +kernel
theorem dX8_init_256 : decode cX8_init 256 = .ok (.bipush 10, 2) := by decide +kernel
theorem dX8_init_258 : decode cX8_init 258 = .ok (.newarray .int, 2) := by decide +kernel
theorem dX8_init_260 : decode cX8_init 260 = .ok (.putfield 99, 3) := by decide +kernel
theorem dX8_init_263 : decode cX8_init 263 = .ok (.aload_n 0, 1) := by decide +kernel
theorem dX8_init_264 : decode cX8_init 264 = .ok (.bipush 10, 2) := by decide +kernel
theorem dX8_init_266 : decode cX8_init 266 = .ok (.newarray .int, 2) := by decide +kernel
theorem dX8_init_268 : decode cX8_init 268 = .ok (.putfield 102, 3) := by decide +kernel
theorem dX8_init_271 : decode cX8_init 271 = .ok (.aload_n 0, 1) := by decide +kernel
theorem dX8_init_272 : decode cX8_init 272 = .ok (.bipush 100, 2) := by decide +kernel
theorem dX8_init_274 : decode cX8_init 274 = .ok (.newarray .int, 2) := by decide +kernel
theorem dX8_init_276 : decode cX8_init 276 = .ok (.putfield 105, 3) := by decide +kernel
theorem dX8_init_279 : decode cX8_init 279 = .ok (.aload_n 0, 1) := by decide +kernel
theorem dX8_init_280 : decode cX8_init 280 = .ok (.bipush 20, 2) := by decide +kernel
theorem dX8_init_282 : decode cX8_init 282 = .ok (.newarray .int, 2) := by decide +kernel
theorem dX8_init_284 : decode cX8_init 284 = .ok (.putfield 108, 3) := by decide +kernel
theorem dX8_init_287 : decode cX8_init 287 = .ok (.aload_n 0, 1) := by decide +kernel
theorem dX8_init_288 : decode cX8_init 288 = .ok (.bipush 20, 2) := by decide +kernel
theorem dX8_init_290 : decode cX8_init 290 = .ok (.newarray .int, 2) := by decide +kernel
theorem dX8_init_292 : decode cX8_init 292 = .ok (.putfield 111, 3) := by decide +kernel
theorem dX8_init_295 : decode cX8_init 295 = .ok (.return_, 1) := by decide +kernel
theorem dX8_in_0 : decode cX8_in 0 = .ok (.iload_n 0, 1) := by decide +kernel
theorem dX8_in_1 : decode cX8_in 1 = .ok (.iload_n 1, 1) := by decide +kernel
theorem dX8_in_2 : decode cX8_in 2 = .ok (.if_icmp .lt 12, 3) := by decide +kernel
theorem dX8_in_5 : decode cX8_in 5 = .ok (.iload_n 0, 1) := by decide +kernel
theorem dX8_in_6 : decode cX8_in 6 = .ok (.iload_n 2, 1) := by decide +kernel
theorem dX8_in_7 : decode cX8_in 7 = .ok (.if_icmp .gt 7, 3) := by decide +kernel
theorem dX8_in_10 : decode cX8_in 10 = .ok (.iconst 1, 1) := by decide +kernel
theorem dX8_in_11 : decode cX8_in 11 = .ok (.goto 4, 3) := by decide +kernel
theorem dX8_in_14 : decode cX8_in 14 = .ok (.iconst 0, 1) := by decide +kernel
theorem dX8_in_15 : decode cX8_in 15 = .ok (.ireturn, 1) := by decide +kernel
theorem dX8_refuse_0 : decode cX8_refuse 0 = .ok (.aload_n 0, 1) := by decide +kernel
theorem dX8_refuse_1 : decode cX8_refuse 1 = .ok (.getfield 87, 3) := by decide +kernel
theorem dX8_refuse_4 : decode cX8_refuse 4 = .ok (.iload_n 1, 1) := by decide +kernel
theorem dX8_refuse_5 : decode cX8_refuse 5 = .ok (.ineg, 1) := by decide +kernel
theorem dX8_refuse_6 : decode cX8_refuse 6 = .ok (.dup2, 1) := by decide +kernel
theorem dX8_refuse_7 : decode cX8_refuse 7 = .ok (.iaload, 1) := by decide +kernel
theorem dX8_refuse_8 : decode cX8_refuse 8 = .ok (.iconst 1, 1) := by decide +kernel
theorem dX8_refuse_9 : decode cX8_refuse 9 = .ok (.iadd, 1) := by decide +kernel
theorem dX8_refuse_10 : decode cX8_refuse 10 = .ok (.iastore, 1) := by decide +kernel
theorem dX8_refuse_11 : decode cX8_refuse 11 = .ok (.iload_n 1, 1) := by decide +kernel
theorem dX8_refuse_12 : decode cX8_refuse 12 = .ok (.ireturn, 1) := by decide +kernel
theorem dX8_refuseBig_0 : decode cX8_refuseBig 0 = .ok (.aload_n 0, 1) := by decide +kernel
theorem dX8_refuseBig_1 : decode cX8_refuseBig 1 = .ok (.getfield 87, 3) := by decide +kernel
theorem dX8_refuseBig_4 : decode cX8_refuseBig 4 = .ok (.iload_n 1, 1) := by decide +kernel
theorem dX8_refuseBig_5 : decode cX8_refuseBig 5 = .ok (.ineg, 1) := by decide +kernel
theorem dX8_refuseBig_6 : decode cX8_refuseBig 6 = .ok (.dup2, 1) := by decide +kernel
theorem dX8_refuseBig_7 : decode cX8_refuseBig 7 = .ok (.iaload, 1) := by decide +kernel
theorem dX8_refuseBig_8 : decode cX8_refuseBig 8 = .ok (.iconst 1, 1) := by decide +kernel
theorem dX8_refuseBig_9 : decode cX8_refuseBig 9 = .ok (.iadd, 1) := by decide +kernel
theorem dX8_refuseBig_10 : decode cX8_refuseBig 10 = .ok (.iastore, 1) := by decide +kernel
theorem dX8_refuseBig_11 : decode cX8_refuseBig 11 = .ok (.ldc 114, 2) := by decide +kernel
theorem dX8_refuseBig_13 : decode cX8_refuseBig 13 = .ok (.iload_n 1, 1) := by decide +kernel
theorem dX8_refuseBig_14 : decode cX8_refuseBig 14 = .ok (.isub, 1) := by decide +kernel
theorem dX8_refuseBig_15 : decode cX8_refuseBig 15 = .ok (.ireturn, 1) := by decide +kernel
theorem dX8_isHouse_0 : decode cX8_isHouse 0 = .ok (.iload_n 1, 1) := by decide +kernel
theorem dX8_isHouse_1 : decode cX8_isHouse 1 = .ok (.iconst 0, 1) := by decide +kernel
theorem dX8_isHouse_2 : decode cX8_isHouse 2 = .ok (.aload_n 0, 1) := by decide +kernel
theorem dX8_isHouse_3 : decode cX8_isHouse 3 = .ok (.getfield 115, 3) := by decide +kernel
theorem dX8_isHouse_6 : decode cX8_isHouse 6 = .ok (.iconst 1, 1) := by decide +kernel
theorem dX8_isHouse_7 : decode cX8_isHouse 7 = .ok (.isub, 1) := by decide +kernel
theorem dX8_isHouse_8 : decode cX8_isHouse 8 = .ok (.invokestatic 119, 3) := by decide +kernel
theorem dX8_isHouse_11 : decode cX8_isHouse 11 = .ok (.ireturn, 1) := by decide +kernel
theorem dX8_isKind_0 : decode cX8_isKind 0 = .ok (.iload_n 1, 1) := by decide +kernel
theorem dX8_isKind_1 : decode cX8_isKind 1 = .ok (.iconst 0, 1) := by decide +kernel
theorem dX8_isKind_2 : decode cX8_isKind 2 = .ok (.aload_n 0, 1) := by decide +kernel
theorem dX8_isKind_3 : decode cX8_isKind 3 = .ok (.getfield 123, 3) := by decide +kernel
theorem dX8_isKind_6 : decode cX8_isKind 6 = .ok (.iconst 1, 1) := by decide +kernel
theorem dX8_isKind_7 : decode cX8_isKind 7 = .ok (.isub, 1) := by decide +kernel
theorem dX8_isKind_8 : decode cX8_isKind 8 = .ok (.invokestatic 119, 3) := by decide +kernel
theorem dX8_isKind_11 : decode cX8_isKind 11 = .ok (.ireturn, 1) := by decide +kernel
theorem dX8_house_0 : decode cX8_house 0 = .ok (.aload_n 0, 1) := by decide +kernel
theorem dX8_house_1 : decode cX8_house 1 = .ok (.getfield 115, 3) := by decide +kernel
theorem dX8_house_4 : decode cX8_house 4 = .ok (.bipush 10, 2) := by decide +kernel
theorem dX8_house_6 : decode cX8_house 6 = .ok (.if_icmp .ne 10, 3) := by decide +kernel
theorem dX8_house_9 : decode cX8_house 9 = .ok (.aload_n 0, 1) := by decide +kernel
theorem dX8_house_10 : decode cX8_house 10 = .ok (.bipush (-6), 2) := by decide +kernel
theorem dX8_house_12 : decode cX8_house 12 = .ok (.invokevirtual 126, 3) := by decide +kernel
theorem dX8_house_15 : decode cX8_house 15 = .ok (.ireturn, 1) := by decide +kernel
theorem dX8_house_16 : decode cX8_house 16 = .ok (.aload_n 0, 1) := by decide +kernel
theorem dX8_house_17 : decode cX8_house 17 = .ok (.dup, 1) := by decide +kernel
theorem dX8_house_18 : decode cX8_house 18 = .ok (.getfield 115, 3) := by decide +kernel
theorem dX8_house_21 : decode cX8_house 21 = .ok (.iconst 1, 1) := by decide +kernel
theorem dX8_house_22 : decode cX8_house 22 = .ok (.iadd, 1) := by decide +kernel
theorem dX8_house_23 : decode cX8_house 23 = .ok (.putfield 115, 3) := by decide +kernel
theorem dX8_house_26 : decode cX8_house 26 = .ok (.aload_n 0, 1) := by decide +kernel
theorem dX8_house_27 : decode cX8_house 27 = .ok (.getfield 115, 3) := by decide +kernel
theorem dX8_house_30 : decode cX8_house 30 = .ok (.iconst 1, 1) := by decide +kernel
theorem dX8_house_31 : decode cX8_house 31 = .ok (.isub, 1) := by decide +kernel
theorem dX8_house_32 : decode cX8_house 32 = .ok (.ireturn, 1) := by decide +kernel
theorem dX8_kind_0 : decode cX8_kind 0 = .ok (.iload_n 1, 1) := by decide +kernel
theorem dX8_kind_1 : decode cX8_kind 1 = .ok (.iconst 1, 1) := by decide +kernel
theorem dX8_kind_2 : decode cX8_kind 2 = .ok (.if_icmp .lt 7, 3) := by decide +kernel
theorem dX8_kind_5 : decode cX8_kind 5 = .ok (.iload_n 2, 1) := by decide +kernel
theorem dX8_kind_6 : decode cX8_kind 6 = .ok (.ifCond .ge 10, 3) := by decide +kernel
theorem dX8_kind_9 : decode cX8_kind 9 = .ok (.aload_n 0, 1) := by decide +kernel
theorem dX8_kind_10 : decode cX8_kind 10 = .ok (.bipush (-4), 2) := by decide +kernel
theorem dX8_kind_12 : decode cX8_kind 12 = .ok (.invokevirtual 126, 3) := by decide +kernel
theorem dX8_kind_15 : decode cX8_kind 15 = .ok (.ireturn, 1) := by decide +kernel
theorem dX8_kind_16 : decode cX8_kind 16 = .ok (.iload_n 1, 1) := by decide +kernel
theorem dX8_kind_17 : decode cX8_kind 17 = .ok (.sipush 1000, 3) := by decide +kernel
theorem dX8_kind_20 : decode cX8_kind 20 = .ok (.if_icmp .gt 18, 3) := by decide +kernel
theorem dX8_kind_23 : decode cX8_kind 23 = .ok (.iload_n 2, 1) := by decide +kernel
theorem dX8_kind_24 : decode cX8_kind 24 = .ok (.bipush 100, 2) := by decide +kernel
theorem dX8_kind_26 : decode cX8_kind 26 = .ok (.if_icmp .gt 12, 3) := by decide +kernel
theorem dX8_kind_29 : decode cX8_kind 29 = .ok (.aload_n 0, 1) := by decide +kernel
theorem dX8_kind_30 : decode cX8_kind 30 = .ok (.getfield 123, 3) := by decide +kernel
theorem dX8_kind_33 : decode cX8_kind 33 = .ok (.bipush 6, 2) := by decide +kernel
theorem dX8_kind_35 : decode cX8_kind 35 = .ok (.if_icmp .ne 10, 3) := by decide +kernel
theorem dX8_kind_38 : decode cX8_kind 38 = .ok (.aload_n 0, 1) := by decide +kernel
theorem dX8_kind_39 : decode cX8_kind 39 = .ok (.bipush (-6), 2) := by decide +kernel
theorem dX8_kind_41 : decode cX8_kind 41 = .ok (.invokevirtual 126, 3) := by decide +kernel
theorem dX8_kind_44 : decode cX8_kind 44 = .ok (.ireturn, 1) := by decide +kernel
theorem dX8_kind_45 : decode cX8_kind 45 = .ok (.aload_n 0, 1) := by decide +kernel
theorem dX8_kind_46 : decode cX8_kind 46 = .ok (.getfield 7, 3) := by decide +kernel
theorem dX8_kind_49 : decode cX8_kind 49 = .ok (.aload_n 0, 1) := by decide +kernel
theorem dX8_kind_50 : decode cX8_kind 50 = .ok (.getfield 123, 3) := by decide +kernel
theorem dX8_kind_53 : decode cX8_kind 53 = .ok (.iload_n 1, 1) := by decide +kernel
theorem dX8_kind_54 : decode cX8_kind 54 = .ok (.iastore, 1) := by decide +kernel
theorem dX8_kind_55 : decode cX8_kind 55 = .ok (.aload_n 0, 1) := by decide +kernel
theorem dX8_kind_56 : decode cX8_kind 56 = .ok (.getfield 13, 3) := by decide +kernel
theorem dX8_kind_59 : decode cX8_kind 59 = .ok (.aload_n 0, 1) := by decide +kernel
theorem dX8_kind_60 : decode cX8_kind 60 = .ok (.getfield 123, 3) := by decide +kernel
theorem dX8_kind_63 : decode cX8_kind 63 = .ok (.iload_n 2, 1) := by decide +kernel
theorem dX8_kind_64 : decode cX8_kind 64 = .ok (.iastore, 1) := by decide +kernel
theorem dX8_kind_65 : decode cX8_kind 65 = .ok (.aload_n 0, 1) := by decide +kernel
theorem dX8_kind_66 : decode cX8_kind 66 = .ok (.dup, 1) := by decide +kernel
theorem dX8_kind_67 : decode cX8_kind 67 = .ok (.getfield 123, 3) := by decide +kernel
theorem dX8_kind_70 : decode cX8_kind 70 = .ok (.iconst 1, 1) := by decide +kernel
theorem dX8_kind_71 : decode cX8_kind 71 = .ok (.iadd, 1) := by decide +kernel
theorem dX8_kind_72 : decode cX8_kind 72 = .ok (.putfield 123, 3) := by decide +kernel
theorem dX8_kind_75 : decode cX8_kind 75 = .ok (.aload_n 0, 1) := by decide +kernel
theorem dX8_kind_76 : decode cX8_kind 76 = .ok (.getfield 123, 3) := by decide +kernel
theorem dX8_kind_79 : decode cX8_kind 79 = .ok (.iconst 1, 1) := by decide +kernel
theorem dX8_kind_80 : decode cX8_kind 80 = .ok (.isub, 1) := by decide +kernel
theorem dX8_kind_81 : decode cX8_kind 81 = .ok (.ireturn, 1) := by decide +kernel
theorem dX8_days_0 : decode cX8_days 0 = .ok (.iload_n 1, 1) := by decide +kernel
theorem dX8_days_1 : decode cX8_days 1 = .ok (.iconst 1, 1) := by decide +kernel
theorem dX8_days_2 : decode cX8_days 2 = .ok (.if_icmp .ge 10, 3) := by decide +kernel
theorem dX8_days_5 : decode cX8_days 5 = .ok (.aload_n 0, 1) := by decide +kernel
theorem dX8_days_6 : decode cX8_days 6 = .ok (.bipush (-4), 2) := by decide +kernel
theorem dX8_days_8 : decode cX8_days 8 = .ok (.invokevirtual 126, 3) := by decide +kernel
theorem dX8_days_11 : decode cX8_days 11 = .ok (.ireturn, 1) := by decide +kernel
theorem dX8_days_12 : decode cX8_days 12 = .ok (.iload_n 1, 1) := by decide +kernel
theorem dX8_days_13 : decode cX8_days 13 = .ok (.sipush 599, 3) := by decide +kernel
theorem dX8_days_16 : decode cX8_days 16 = .ok (.aload_n 0, 1) := by decide +kernel
theorem dX8_days_17 : decode cX8_days 17 = .ok (.getfield 130, 3) := by decide +kernel
theorem dX8_days_20 : decode cX8_days 20 = .ok (.isub, 1) := by decide +kernel
theorem dX8_days_21 : decode cX8_days 21 = .ok (.if_icmp .le 10, 3) := by decide +kernel
theorem dX8_days_24 : decode cX8_days 24 = .ok (.aload_n 0, 1) := by decide +kernel
theorem dX8_days_25 : decode cX8_days 25 = .ok (.bipush (-6), 2) := by decide +kernel
theorem dX8_days_27 : decode cX8_days 27 = .ok (.invokevirtual 126, 3) := by decide +kernel
theorem dX8_days_30 : decode cX8_days 30 = .ok (.ireturn, 1) := by decide +kernel
theorem dX8_days_31 : decode cX8_days 31 = .ok (.aload_n 0, 1) := by decide +kernel
theorem dX8_days_32 : decode cX8_days 32 = .ok (.dup, 1) := by decide +kernel
theorem dX8_days_33 : decode cX8_days 33 = .ok (.getfield 130, 3) := by decide +kernel
theorem dX8_days_36 : decode cX8_days 36 = .ok (.iload_n 1, 1) := by decide +kernel
theorem dX8_days_37 : decode cX8_days 37 = .ok (.iadd, 1) := by decide +kernel
theorem dX8_days_38 : decode cX8_days 38 = .ok (.putfield 130, 3) := by decide +kernel
theorem dX8_days_41 : decode cX8_days 41 = .ok (.aload_n 0, 1) := by decide +kernel
theorem dX8_days_42 : decode cX8_days 42 = .ok (.getfield 130, 3) := by decide +kernel
theorem dX8_days_45 : decode cX8_days 45 = .ok (.ireturn, 1) := by decide +kernel
theorem dX8_enter_0 : decode cX8_enter 0 = .ok (.aload_n 0, 1) := by decide +kernel
theorem dX8_enter_1 : decode cX8_enter 1 = .ok (.getfield 16, 3) := by decide +kernel
theorem dX8_enter_4 : decode cX8_enter 4 = .ok (.aload_n 0, 1) := by decide +kernel
theorem dX8_enter_5 : decode cX8_enter 5 = .ok (.getfield 133, 3) := by decide +kernel
theorem dX8_enter_8 : decode cX8_enter 8 = .ok (.iload_n 1, 1) := by decide +kernel
theorem dX8_enter_9 : decode cX8_enter 9 = .ok (.iastore, 1) := by decide +kernel
theorem dX8_enter_10 : decode cX8_enter 10 = .ok (.aload_n 0, 1) := by decide +kernel
theorem dX8_enter_11 : decode cX8_enter 11 = .ok (.getfield 19, 3) := by decide +kernel
theorem dX8_enter_14 : decode cX8_enter 14 = .ok (.aload_n 0, 1) := by decide +kernel
theorem dX8_enter_15 : decode cX8_enter 15 = .ok (.getfield 133, 3) := by decide +kernel
theorem dX8_enter_18 : decode cX8_enter 18 = .ok (.iload_n 2, 1) := by decide +kernel
theorem dX8_enter_19 : decode cX8_enter 19 = .ok (.iastore, 1) := by decide +kernel
theorem dX8_enter_20 : decode cX8_enter 20 = .ok (.aload_n 0, 1) := by decide +kernel
theorem dX8_enter_21 : decode cX8_enter 21 = .ok (.getfield 22, 3) := by decide +kernel
theorem dX8_enter_24 : decode cX8_enter 24 = .ok (.aload_n 0, 1) := by decide +kernel
theorem dX8_enter_25 : decode cX8_enter 25 = .ok (.getfield 133, 3) := by decide +kernel
theorem dX8_enter_28 : decode cX8_enter 28 = .ok (.iload_n 3, 1) := by decide +kernel
theorem dX8_enter_29 : decode cX8_enter 29 = .ok (.bipush 30, 2) := by decide +kernel
theorem dX8_enter_31 : decode cX8_enter 31 = .ok (.aload_n 0, 1) := by decide +kernel
theorem dX8_enter_32 : decode cX8_enter 32 = .ok (.getfield 136, 3) := by decide +kernel
theorem dX8_enter_35 : decode cX8_enter 35 = .ok (.imul, 1) := by decide +kernel
theorem dX8_enter_36 : decode cX8_enter 36 = .ok (.if_icmp .ge 13, 3) := by decide +kernel
theorem dX8_enter_39 : decode cX8_enter 39 = .ok (.bipush 30, 2) := by decide +kernel
theorem dX8_enter_41 : decode cX8_enter 41 = .ok (.aload_n 0, 1) := by decide +kernel
theorem dX8_enter_42 : decode cX8_enter 42 = .ok (.getfield 136, 3) := by decide +kernel
theorem dX8_enter_45 : decode cX8_enter 45 = .ok (.imul, 1) := by decide +kernel
theorem dX8_enter_46 : decode cX8_enter 46 = .ok (.goto 4, 3) := by decide +kernel
theorem dX8_enter_49 : decode cX8_enter 49 = .ok (.iload_n 3, 1) := by decide +kernel
theorem dX8_enter_50 : decode cX8_enter 50 = .ok (.iastore, 1) := by decide +kernel
theorem dX8_enter_51 : decode cX8_enter 51 = .ok (.aload_n 0, 1) := by decide +kernel
theorem dX8_enter_52 : decode cX8_enter 52 = .ok (.getfield 25, 3) := by decide +kernel
theorem dX8_enter_55 : decode cX8_enter 55 = .ok (.aload_n 0, 1) := by decide +kernel
theorem dX8_enter_56 : decode cX8_enter 56 = .ok (.getfield 133, 3) := by decide +kernel
theorem dX8_enter_59 : decode cX8_enter 59 = .ok (.iload 4, 2) := by decide +kernel
theorem dX8_enter_61 : decode cX8_enter 61 = .ok (.iastore, 1) := by decide +kernel
theorem dX8_enter_62 : decode cX8_enter 62 = .ok (.aload_n 0, 1) := by decide +kernel
theorem dX8_enter_63 : decode cX8_enter 63 = .ok (.dup, 1) := by decide +kernel
theorem dX8_enter_64 : decode cX8_enter 64 = .ok (.getfield 133, 3) := by decide +kernel
theorem dX8_enter_67 : decode cX8_enter 67 = .ok (.iconst 1, 1) := by decide +kernel
theorem dX8_enter_68 : decode cX8_enter 68 = .ok (.iadd, 1) := by decide +kernel
theorem dX8_enter_69 : decode cX8_enter 69 = .ok (.putfield 133, 3) := by decide +kernel
theorem dX8_enter_72 : decode cX8_enter 72 = .ok (.return_, 1) := by decide +kernel
theorem dX8_accountOf_0 : decode cX8_accountOf 0 = .ok (.iconst 0, 1) := by decide +kernel
theorem dX8_accountOf_1 : decode cX8_accountOf 1 = .ok (.istore 4, 2) := by decide +kernel
theorem dX8_accountOf_3 : decode cX8_accountOf 3 = .ok (.iconst 0, 1) := by decide +kernel
theorem dX8_accountOf_4 : decode cX8_accountOf 4 = .ok (.istore 5, 2) := by decide +kernel
theorem dX8_accountOf_6 : decode cX8_accountOf 6 = .ok (.iload 5, 2) := by decide +kernel
theorem dX8_accountOf_8 : decode cX8_accountOf 8 = .ok (.aload_n 0, 1) := by decide +kernel
theorem dX8_accountOf_9 : decode cX8_accountOf 9 = .ok (.getfield 133, 3) := by decide +kernel
theorem dX8_accountOf_12 : decode cX8_accountOf 12 = .ok (.if_icmp .ge 58, 3) := by decide +kernel
theorem dX8_accountOf_15 : decode cX8_accountOf 15 = .ok (.iload 4, 2) := by decide +kernel
theorem dX8_accountOf_17 : decode cX8_accountOf 17 = .ok (.aload_n 0, 1) := by decide +kernel
theorem dX8_accountOf_18 : decode cX8_accountOf 18 = .ok (.getfield 16, 3) := by decide +kernel
theorem dX8_accountOf_21 : decode cX8_accountOf 21 = .ok (.iload 5, 2) := by decide +kernel
theorem dX8_accountOf_23 : decode cX8_accountOf 23 = .ok (.iaload, 1) := by decide +kernel
theorem dX8_accountOf_24 : decode cX8_accountOf 24 = .ok (.iload_n 1, 1) := by decide +kernel
theorem dX8_accountOf_25 : decode cX8_accountOf 25 = .ok (.if_icmp .ne 35, 3) := by decide +kernel
theorem dX8_accountOf_28 : decode cX8_accountOf 28 = .ok (.aload_n 0, 1) := by decide +kernel
theorem dX8_accountOf_29 : decode cX8_accountOf 29 = .ok (.getfield 19, 3) := by decide +kernel
theorem dX8_accountOf_32 : decode cX8_accountOf 32 = .ok (.iload 5, 2) := by decide +kernel
theorem dX8_accountOf_34 : decode cX8_accountOf 34 = .ok (.iaload, 1) := by decide +kernel
theorem dX8_accountOf_35 : decode cX8_accountOf 35 = .ok (.iload_n 2, 1) := by decide +kernel
theorem dX8_accountOf_36 : decode cX8_accountOf 36 = .ok (.if_icmp .ne 24, 3) := by decide +kernel
theorem dX8_accountOf_39 : decode cX8_accountOf 39 = .ok (.aload_n 0, 1) := by decide +kernel
theorem dX8_accountOf_40 : decode cX8_accountOf 40 = .ok (.getfield 22, 3) := by decide +kernel
theorem dX8_accountOf_43 : decode cX8_accountOf 43 = .ok (.iload 5, 2) := by decide +kernel
theorem dX8_accountOf_45 : decode cX8_accountOf 45 = .ok (.iaload, 1) := by decide +kernel
theorem dX8_accountOf_46 : decode cX8_accountOf 46 = .ok (.iload_n 3, 1) := by decide +kernel
theorem dX8_accountOf_47 : decode cX8_accountOf 47 = .ok (.if_icmp .gt 13, 3) := by decide +kernel
theorem dX8_accountOf_50 : decode cX8_accountOf 50 = .ok (.aload_n 0, 1) := by decide +kernel
theorem dX8_accountOf_51 : decode cX8_accountOf 51 = .ok (.getfield 25, 3) := by decide +kernel
theorem dX8_accountOf_54 : decode cX8_accountOf 54 = .ok (.iload 5, 2) := by decide +kernel
theorem dX8_accountOf_56 : decode cX8_accountOf 56 = .ok (.iaload, 1) := by decide +kernel
theorem dX8_accountOf_57 : decode cX8_accountOf 57 = .ok (.goto 4, 3) := by decide +kernel
theorem dX8_accountOf_60 : decode cX8_accountOf 60 = .ok (.iconst 0, 1) := by decide +kernel
theorem dX8_accountOf_61 : decode cX8_accountOf 61 = .ok (.iadd, 1) := by decide +kernel
theorem dX8_accountOf_62 : decode cX8_accountOf 62 = .ok (.istore 4, 2) := by decide +kernel
theorem dX8_accountOf_64 : decode cX8_accountOf 64 = .ok (.iinc 5 1, 3) := by decide +kernel
theorem dX8_accountOf_67 : decode cX8_accountOf 67 = .ok (.goto (-61), 3) := by decide +kernel
theorem dX8_accountOf_70 : decode cX8_accountOf 70 = .ok (.iload 4, 2) := by decide +kernel
theorem dX8_accountOf_72 : decode cX8_accountOf 72 = .ok (.ireturn, 1) := by decide +kernel
theorem dX8_account_0 : decode cX8_account 0 = .ok (.aload_n 0, 1) := by decide +kernel
theorem dX8_account_1 : decode cX8_account 1 = .ok (.iload_n 1, 1) := by decide +kernel
theorem dX8_account_2 : decode cX8_account 2 = .ok (.invokevirtual 139, 3) := by decide +kernel
theorem dX8_account_5 : decode cX8_account 5 = .ok (.ifCond .eq 11, 3) := by decide +kernel
theorem dX8_account_8 : decode cX8_account 8 = .ok (.aload_n 0, 1) := by decide +kernel
theorem dX8_account_9 : decode cX8_account 9 = .ok (.iload_n 2, 1) := by decide +kernel
theorem dX8_account_10 : decode cX8_account 10 = .ok (.invokevirtual 143, 3) := by decide +kernel
theorem dX8_account_13 : decode cX8_account 13 = .ok (.ifCond .ne 9, 3) := by decide +kernel
theorem dX8_account_16 : decode cX8_account 16 = .ok (.aload_n 0, 1) := by decide +kernel
theorem dX8_account_17 : decode cX8_account 17 = .ok (.iconst (-1), 1) := by decide +kernel
theorem dX8_account_18 : decode cX8_account 18 = .ok (.invokevirtual 146, 3) := by decide +kernel
theorem dX8_account_21 : decode cX8_account 21 = .ok (.ireturn, 1) := by decide +kernel
theorem dX8_account_22 : decode cX8_account 22 = .ok (.iload_n 3, 1) := by decide +kernel
theorem dX8_account_23 : decode cX8_account 23 = .ok (.ifCond .ge 10, 3) := by decide +kernel
theorem dX8_account_26 : decode cX8_account 26 = .ok (.aload_n 0, 1) := by decide +kernel
theorem dX8_account_27 : decode cX8_account 27 = .ok (.bipush (-4), 2) := by decide +kernel
theorem dX8_account_29 : decode cX8_account 29 = .ok (.invokevirtual 146, 3) := by decide +kernel
theorem dX8_account_32 : decode cX8_account 32 = .ok (.ireturn, 1) := by decide +kernel
theorem dX8_account_33 : decode cX8_account 33 = .ok (.iload_n 3, 1) := by decide +kernel
theorem dX8_account_34 : decode cX8_account 34 = .ok (.sipush 599, 3) := by decide +kernel
theorem dX8_account_37 : decode cX8_account 37 = .ok (.if_icmp .le 12, 3) := by decide +kernel
theorem dX8_account_40 : decode cX8_account 40 = .ok (.aload_n 0, 1) := by decide +kernel
theorem dX8_account_41 : decode cX8_account 41 = .ok (.bipush (-6), 2) := by decide +kernel
theorem dX8_account_43 : decode cX8_account 43 = .ok (.invokevirtual 146, 3) := by decide +kernel
theorem dX8_account_46 : decode cX8_account 46 = .ok (.goto 10, 3) := by decide +kernel
theorem dX8_account_49 : decode cX8_account 49 = .ok (.aload_n 0, 1) := by decide +kernel
theorem dX8_account_50 : decode cX8_account 50 = .ok (.iload_n 1, 1) := by decide +kernel
theorem dX8_account_51 : decode cX8_account 51 = .ok (.iload_n 2, 1) := by decide +kernel
theorem dX8_account_52 : decode cX8_account 52 = .ok (.iload_n 3, 1) := by decide +kernel
theorem dX8_account_53 : decode cX8_account 53 = .ok (.invokevirtual 149, 3) := by decide +kernel
theorem dX8_account_56 : decode cX8_account 56 = .ok (.ireturn, 1) := by decide +kernel
theorem dX8_buy_0 : decode cX8_buy 0 = .ok (.aload_n 0, 1) := by decide +kernel
theorem dX8_buy_1 : decode cX8_buy 1 = .ok (.iload_n 1, 1) := by decide +kernel
theorem dX8_buy_2 : decode cX8_buy 2 = .ok (.invokevirtual 139, 3) := by decide +kernel
theorem dX8_buy_5 : decode cX8_buy 5 = .ok (.ifCond .eq 11, 3) := by decide +kernel
theorem dX8_buy_8 : decode cX8_buy 8 = .ok (.aload_n 0, 1) := by decide +kernel
theorem dX8_buy_9 : decode cX8_buy 9 = .ok (.iload_n 2, 1) := by decide +kernel
theorem dX8_buy_10 : decode cX8_buy 10 = .ok (.invokevirtual 143, 3) := by decide +kernel
theorem dX8_buy_13 : decode cX8_buy 13 = .ok (.ifCond .ne 9, 3) := by decide +kernel
theorem dX8_buy_16 : decode cX8_buy 16 = .ok (.aload_n 0, 1) := by decide +kernel
theorem dX8_buy_17 : decode cX8_buy 17 = .ok (.iconst (-1), 1) := by decide +kernel
theorem dX8_buy_18 : decode cX8_buy 18 = .ok (.invokevirtual 146, 3) := by decide +kernel
theorem dX8_buy_21 : decode cX8_buy 21 = .ok (.ireturn, 1) := by decide +kernel
theorem dX8_buy_22 : decode cX8_buy 22 = .ok (.iload_n 3, 1) := by decide +kernel
theorem dX8_buy_23 : decode cX8_buy 23 = .ok (.iconst 1, 1) := by decide +kernel
theorem dX8_buy_24 : decode cX8_buy 24 = .ok (.if_icmp .ge 10, 3) := by decide +kernel
theorem dX8_buy_27 : decode cX8_buy 27 = .ok (.aload_n 0, 1) := by decide +kernel
theorem dX8_buy_28 : decode cX8_buy 28 = .ok (.bipush (-4), 2) := by decide +kernel
theorem dX8_buy_30 : decode cX8_buy 30 = .ok (.invokevirtual 146, 3) := by decide +kernel
theorem dX8_buy_33 : decode cX8_buy 33 = .ok (.ireturn, 1) := by decide +kernel
theorem dX8_buy_34 : decode cX8_buy 34 = .ok (.iload_n 3, 1) := by decide +kernel
theorem dX8_buy_35 : decode cX8_buy 35 = .ok (.sipush 1000, 3) := by decide +kernel
theorem dX8_buy_38 : decode cX8_buy 38 = .ok (.if_icmp .gt 13, 3) := by decide +kernel
theorem dX8_buy_41 : decode cX8_buy 41 = .ok (.aload_n 0, 1) := by decide +kernel
theorem dX8_buy_42 : decode cX8_buy 42 = .ok (.getfield 133, 3) := by decide +kernel
theorem dX8_buy_45 : decode cX8_buy 45 = .ok (.sipush 2000, 3) := by decide +kernel
theorem dX8_buy_48 : decode cX8_buy 48 = .ok (.if_icmp .ne 10, 3) := by decide +kernel
theorem dX8_buy_51 : decode cX8_buy 51 = .ok (.aload_n 0, 1) := by decide +kernel
