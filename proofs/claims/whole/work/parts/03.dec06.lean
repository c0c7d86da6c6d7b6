theorem dX8_want_28 : decode cX8_want 28 = .ok (.ireturn, 1) := by decide +kernel
theorem dX8_want_29 : decode cX8_want 29 = .ok (.iload_n 2, 1) := by decide +kernel
theorem dX8_want_30 : decode cX8_want 30 = .ok (.bipush 100, 2) := by decide +kernel
theorem dX8_want_32 : decode cX8_want 32 = .ok (.if_icmp .gt 9, 3) := by decide +kernel
theorem dX8_want_35 : decode cX8_want 35 = .ok (.iload_n 3, 1) := by decide +kernel
theorem dX8_want_36 : decode cX8_want 36 = .ok (.bipush 100, 2) := by decide +kernel
theorem dX8_want_38 : decode cX8_want 38 = .ok (.if_icmp .le 10, 3) := by decide +kernel
theorem dX8_want_41 : decode cX8_want 41 = .ok (.aload_n 0, 1) := by decide +kernel
theorem dX8_want_42 : decode cX8_want 42 = .ok (.bipush (-6), 2) := by decide +kernel
theorem dX8_want_44 : decode cX8_want 44 = .ok (.invokevirtual 126, 3) := by decide +kernel
theorem dX8_want_47 : decode cX8_want 47 = .ok (.ireturn, 1) := by decide +kernel
theorem dX8_want_48 : decode cX8_want 48 = .ok (.aload_n 0, 1) := by decide +kernel
theorem dX8_want_49 : decode cX8_want 49 = .ok (.getfield 78, 3) := by decide +kernel
theorem dX8_want_52 : decode cX8_want 52 = .ok (.iload_n 1, 1) := by decide +kernel
theorem dX8_want_53 : decode cX8_want 53 = .ok (.iload_n 2, 1) := by decide +kernel
theorem dX8_want_54 : decode cX8_want 54 = .ok (.iastore, 1) := by decide +kernel
theorem dX8_want_55 : decode cX8_want 55 = .ok (.aload_n 0, 1) := by decide +kernel
theorem dX8_want_56 : decode cX8_want 56 = .ok (.getfield 81, 3) := by decide +kernel
theorem dX8_want_59 : decode cX8_want 59 = .ok (.iload_n 1, 1) := by decide +kernel
theorem dX8_want_60 : decode cX8_want 60 = .ok (.iload_n 3, 1) := by decide +kernel
theorem dX8_want_61 : decode cX8_want 61 = .ok (.iastore, 1) := by decide +kernel
theorem dX8_want_62 : decode cX8_want 62 = .ok (.iconst 1, 1) := by decide +kernel
theorem dX8_want_63 : decode cX8_want 63 = .ok (.ireturn, 1) := by decide +kernel
theorem dX8_way_0 : decode cX8_way 0 = .ok (.aload_n 0, 1) := by decide +kernel
theorem dX8_way_1 : decode cX8_way 1 = .ok (.iload_n 1, 1) := by decide +kernel
theorem dX8_way_2 : decode cX8_way 2 = .ok (.invokevirtual 139, 3) := by decide +kernel
theorem dX8_way_5 : decode cX8_way 5 = .ok (.ifCond .eq 16, 3) := by decide +kernel
theorem dX8_way_8 : decode cX8_way 8 = .ok (.aload_n 0, 1) := by decide +kernel
theorem dX8_way_9 : decode cX8_way 9 = .ok (.iload_n 2, 1) := by decide +kernel
theorem dX8_way_10 : decode cX8_way 10 = .ok (.invokevirtual 139, 3) := by decide +kernel
theorem dX8_way_13 : decode cX8_way 13 = .ok (.ifCond .eq 8, 3) := by decide +kernel
theorem dX8_way_16 : decode cX8_way 16 = .ok (.iload_n 1, 1) := by decide +kernel
theorem dX8_way_17 : decode cX8_way 17 = .ok (.iload_n 2, 1) := by decide +kernel
theorem dX8_way_18 : decode cX8_way 18 = .ok (.if_icmp .ne 9, 3) := by decide +kernel
theorem dX8_way_21 : decode cX8_way 21 = .ok (.aload_n 0, 1) := by decide +kernel
theorem dX8_way_22 : decode cX8_way 22 = .ok (.iconst (-1), 1) := by decide +kernel
theorem dX8_way_23 : decode cX8_way 23 = .ok (.invokevirtual 126, 3) := by decide +kernel
theorem dX8_way_26 : decode cX8_way 26 = .ok (.ireturn, 1) := by decide +kernel
theorem dX8_way_27 : decode cX8_way 27 = .ok (.iload_n 3, 1) := by decide +kernel
theorem dX8_way_28 : decode cX8_way 28 = .ok (.ifCond .ge 10, 3) := by decide +kernel
theorem dX8_way_31 : decode cX8_way 31 = .ok (.aload_n 0, 1) := by decide +kernel
theorem dX8_way_32 : decode cX8_way 32 = .ok (.bipush (-4), 2) := by decide +kernel
theorem dX8_way_34 : decode cX8_way 34 = .ok (.invokevirtual 126, 3) := by decide +kernel
theorem dX8_way_37 : decode cX8_way 37 = .ok (.ireturn, 1) := by decide +kernel
theorem dX8_way_38 : decode cX8_way 38 = .ok (.iload_n 3, 1) := by decide +kernel
theorem dX8_way_39 : decode cX8_way 39 = .ok (.sipush 1000, 3) := by decide +kernel
theorem dX8_way_42 : decode cX8_way 42 = .ok (.if_icmp .le 10, 3) := by decide +kernel
theorem dX8_way_45 : decode cX8_way 45 = .ok (.aload_n 0, 1) := by decide +kernel
theorem dX8_way_46 : decode cX8_way 46 = .ok (.bipush (-6), 2) := by decide +kernel
theorem dX8_way_48 : decode cX8_way 48 = .ok (.invokevirtual 126, 3) := by decide +kernel
theorem dX8_way_51 : decode cX8_way 51 = .ok (.ireturn, 1) := by decide +kernel
theorem dX8_way_52 : decode cX8_way 52 = .ok (.aload_n 0, 1) := by decide +kernel
theorem dX8_way_53 : decode cX8_way 53 = .ok (.getfield 84, 3) := by decide +kernel
theorem dX8_way_56 : decode cX8_way 56 = .ok (.bipush 10, 2) := by decide +kernel
theorem dX8_way_58 : decode cX8_way 58 = .ok (.iload_n 1, 1) := by decide +kernel
theorem dX8_way_59 : decode cX8_way 59 = .ok (.imul, 1) := by decide +kernel
theorem dX8_way_60 : decode cX8_way 60 = .ok (.iload_n 2, 1) := by decide +kernel
theorem dX8_way_61 : decode cX8_way 61 = .ok (.iadd, 1) := by decide +kernel
theorem dX8_way_62 : decode cX8_way 62 = .ok (.iaload, 1) := by decide +kernel
theorem dX8_way_63 : decode cX8_way 63 = .ok (.istore 4, 2) := by decide +kernel
theorem dX8_way_65 : decode cX8_way 65 = .ok (.aload_n 0, 1) := by decide +kernel
theorem dX8_way_66 : decode cX8_way 66 = .ok (.getfield 84, 3) := by decide +kernel
theorem dX8_way_69 : decode cX8_way 69 = .ok (.bipush 10, 2) := by decide +kernel
theorem dX8_way_71 : decode cX8_way 71 = .ok (.iload_n 1, 1) := by decide +kernel
theorem dX8_way_72 : decode cX8_way 72 = .ok (.imul, 1) := by decide +kernel
theorem dX8_way_73 : decode cX8_way 73 = .ok (.iload_n 2, 1) := by decide +kernel
theorem dX8_way_74 : decode cX8_way 74 = .ok (.iadd, 1) := by decide +kernel
theorem dX8_way_75 : decode cX8_way 75 = .ok (.iload_n 3, 1) := by decide +kernel
theorem dX8_way_76 : decode cX8_way 76 = .ok (.iastore, 1) := by decide +kernel
theorem dX8_way_77 : decode cX8_way 77 = .ok (.aload_n 0, 1) := by decide +kernel
theorem dX8_way_78 : decode cX8_way 78 = .ok (.getfield 84, 3) := by decide +kernel
theorem dX8_way_81 : decode cX8_way 81 = .ok (.bipush 10, 2) := by decide +kernel
theorem dX8_way_83 : decode cX8_way 83 = .ok (.iload_n 2, 1) := by decide +kernel
theorem dX8_way_84 : decode cX8_way 84 = .ok (.imul, 1) := by decide +kernel
theorem dX8_way_85 : decode cX8_way 85 = .ok (.iload_n 1, 1) := by decide +kernel
theorem dX8_way_86 : decode cX8_way 86 = .ok (.iadd, 1) := by decide +kernel
theorem dX8_way_87 : decode cX8_way 87 = .ok (.iload_n 3, 1) := by decide +kernel
theorem dX8_way_88 : decode cX8_way 88 = .ok (.iastore, 1) := by decide +kernel
theorem dX8_way_89 : decode cX8_way 89 = .ok (.iload 4, 2) := by decide +kernel
theorem dX8_way_91 : decode cX8_way 91 = .ok (.ireturn, 1) := by decide +kernel
theorem dX8_plan_0 : decode cX8_plan 0 = .ok (.iconst 0, 1) := by decide +kernel
theorem dX8_plan_1 : decode cX8_plan 1 = .ok (.istore_n 1, 1) := by decide +kernel
theorem dX8_plan_2 : decode cX8_plan 2 = .ok (.iconst 0, 1) := by decide +kernel
theorem dX8_plan_3 : decode cX8_plan 3 = .ok (.istore_n 2, 1) := by decide +kernel
theorem dX8_plan_4 : decode cX8_plan 4 = .ok (.iconst 0, 1) := by decide +kernel
theorem dX8_plan_5 : decode cX8_plan 5 = .ok (.istore_n 3, 1) := by decide +kernel
theorem dX8_plan_6 : decode cX8_plan 6 = .ok (.iload_n 3, 1) := by decide +kernel
theorem dX8_plan_7 : decode cX8_plan 7 = .ok (.aload_n 0, 1) := by decide +kernel
theorem dX8_plan_8 : decode cX8_plan 8 = .ok (.getfield 115, 3) := by decide +kernel
theorem dX8_plan_11 : decode cX8_plan 11 = .ok (.if_icmp .ge 27, 3) := by decide +kernel
theorem dX8_plan_14 : decode cX8_plan 14 = .ok (.iload_n 1, 1) := by decide +kernel
theorem dX8_plan_15 : decode cX8_plan 15 = .ok (.aload_n 0, 1) := by decide +kernel
theorem dX8_plan_16 : decode cX8_plan 16 = .ok (.getfield 78, 3) := by decide +kernel
theorem dX8_plan_19 : decode cX8_plan 19 = .ok (.iload_n 3, 1) := by decide +kernel
theorem dX8_plan_20 : decode cX8_plan 20 = .ok (.iaload, 1) := by decide +kernel
theorem dX8_plan_21 : decode cX8_plan 21 = .ok (.iadd, 1) := by decide +kernel
theorem dX8_plan_22 : decode cX8_plan 22 = .ok (.istore_n 1, 1) := by decide +kernel
theorem dX8_plan_23 : decode cX8_plan 23 = .ok (.iload_n 2, 1) := by decide +kernel
theorem dX8_plan_24 : decode cX8_plan 24 = .ok (.aload_n 0, 1) := by decide +kernel
theorem dX8_plan_25 : decode cX8_plan 25 = .ok (.getfield 81, 3) := by decide +kernel
theorem dX8_plan_28 : decode cX8_plan 28 = .ok (.iload_n 3, 1) := by decide +kernel
theorem dX8_plan_29 : decode cX8_plan 29 = .ok (.iaload, 1) := by decide +kernel
theorem dX8_plan_30 : decode cX8_plan 30 = .ok (.iadd, 1) := by decide +kernel
theorem dX8_plan_31 : decode cX8_plan 31 = .ok (.istore_n 2, 1) := by decide +kernel
theorem dX8_plan_32 : decode cX8_plan 32 = .ok (.iinc 3 1, 3) := by decide +kernel
theorem dX8_plan_35 : decode cX8_plan 35 = .ok (.goto (-29), 3) := by decide +kernel
theorem dX8_plan_38 : decode cX8_plan 38 = .ok (.iload_n 1, 1) := by decide +kernel
theorem dX8_plan_39 : decode cX8_plan 39 = .ok (.iload_n 2, 1) := by decide +kernel
theorem dX8_plan_40 : decode cX8_plan 40 = .ok (.if_icmp .ge 10, 3) := by decide +kernel
theorem dX8_plan_43 : decode cX8_plan 43 = .ok (.aload_n 0, 1) := by decide +kernel
theorem dX8_plan_44 : decode cX8_plan 44 = .ok (.bipush (-5), 2) := by decide +kernel
theorem dX8_plan_46 : decode cX8_plan 46 = .ok (.invokevirtual 126, 3) := by decide +kernel
theorem dX8_plan_49 : decode cX8_plan 49 = .ok (.ireturn, 1) := by decide +kernel
theorem dX8_plan_50 : decode cX8_plan 50 = .ok (.iconst 0, 1) := by decide +kernel
theorem dX8_plan_51 : decode cX8_plan 51 = .ok (.istore_n 3, 1) := by decide +kernel
theorem dX8_plan_52 : decode cX8_plan 52 = .ok (.iload_n 3, 1) := by decide +kernel
theorem dX8_plan_53 : decode cX8_plan 53 = .ok (.bipush 100, 2) := by decide +kernel
theorem dX8_plan_55 : decode cX8_plan 55 = .ok (.if_icmp .ge 16, 3) := by decide +kernel
theorem dX8_plan_58 : decode cX8_plan 58 = .ok (.aload_n 0, 1) := by decide +kernel
theorem dX8_plan_59 : decode cX8_plan 59 = .ok (.getfield 105, 3) := by decide +kernel
theorem dX8_plan_62 : decode cX8_plan 62 = .ok (.iload_n 3, 1) := by decide +kernel
theorem dX8_plan_63 : decode cX8_plan 63 = .ok (.iconst 0, 1) := by decide +kernel
theorem dX8_plan_64 : decode cX8_plan 64 = .ok (.iastore, 1) := by decide +kernel
theorem dX8_plan_65 : decode cX8_plan 65 = .ok (.iinc 3 1, 3) := by decide +kernel
theorem dX8_plan_68 : decode cX8_plan 68 = .ok (.goto (-16), 3) := by decide +kernel
theorem dX8_plan_71 : decode cX8_plan 71 = .ok (.iconst 0, 1) := by decide +kernel
theorem dX8_plan_72 : decode cX8_plan 72 = .ok (.istore_n 3, 1) := by decide +kernel
theorem dX8_plan_73 : decode cX8_plan 73 = .ok (.iconst 0, 1) := by decide +kernel
theorem dX8_plan_74 : decode cX8_plan 74 = .ok (.istore 4, 2) := by decide +kernel
theorem dX8_plan_76 : decode cX8_plan 76 = .ok (.iload 4, 2) := by decide +kernel
theorem dX8_plan_78 : decode cX8_plan 78 = .ok (.iload_n 2, 1) := by decide +kernel
theorem dX8_plan_79 : decode cX8_plan 79 = .ok (.if_icmp .ge 16, 3) := by decide +kernel
theorem dX8_plan_82 : decode cX8_plan 82 = .ok (.iload_n 3, 1) := by decide +kernel
theorem dX8_plan_83 : decode cX8_plan 83 = .ok (.aload_n 0, 1) := by decide +kernel
theorem dX8_plan_84 : decode cX8_plan 84 = .ok (.invokevirtual 209, 3) := by decide +kernel
theorem dX8_plan_87 : decode cX8_plan 87 = .ok (.iadd, 1) := by decide +kernel
theorem dX8_plan_88 : decode cX8_plan 88 = .ok (.istore_n 3, 1) := by decide +kernel
theorem dX8_plan_89 : decode cX8_plan 89 = .ok (.iinc 4 1, 3) := by decide +kernel
theorem dX8_plan_92 : decode cX8_plan 92 = .ok (.goto (-16), 3) := by decide +kernel
theorem dX8_plan_95 : decode cX8_plan 95 = .ok (.iload_n 3, 1) := by decide +kernel
theorem dX8_plan_96 : decode cX8_plan 96 = .ok (.ireturn, 1) := by decide +kernel
theorem dX8_left_0 : decode cX8_left 0 = .ok (.aload_n 0, 1) := by decide +kernel
theorem dX8_left_1 : decode cX8_left 1 = .ok (.getfield 78, 3) := by decide +kernel
theorem dX8_left_4 : decode cX8_left 4 = .ok (.iload_n 1, 1) := by decide +kernel
theorem dX8_left_5 : decode cX8_left 5 = .ok (.iaload, 1) := by decide +kernel
theorem dX8_left_6 : decode cX8_left 6 = .ok (.istore_n 2, 1) := by decide +kernel
theorem dX8_left_7 : decode cX8_left 7 = .ok (.iconst 0, 1) := by decide +kernel
theorem dX8_left_8 : decode cX8_left 8 = .ok (.istore_n 3, 1) := by decide +kernel
theorem dX8_left_9 : decode cX8_left 9 = .ok (.iload_n 3, 1) := by decide +kernel
theorem dX8_left_10 : decode cX8_left 10 = .ok (.aload_n 0, 1) := by decide +kernel
theorem dX8_left_11 : decode cX8_left 11 = .ok (.getfield 115, 3) := by decide +kernel
theorem dX8_left_14 : decode cX8_left 14 = .ok (.if_icmp .ge 23, 3) := by decide +kernel
theorem dX8_left_17 : decode cX8_left 17 = .ok (.iload_n 2, 1) := by decide +kernel
theorem dX8_left_18 : decode cX8_left 18 = .ok (.aload_n 0, 1) := by decide +kernel
theorem dX8_left_19 : decode cX8_left 19 = .ok (.getfield 105, 3) := by decide +kernel
theorem dX8_left_22 : decode cX8_left 22 = .ok (.bipush 10, 2) := by decide +kernel
theorem dX8_left_24 : decode cX8_left 24 = .ok (.iload_n 1, 1) := by decide +kernel
theorem dX8_left_25 : decode cX8_left 25 = .ok (.imul, 1) := by decide +kernel
theorem dX8_left_26 : decode cX8_left 26 = .ok (.iload_n 3, 1) := by decide +kernel
theorem dX8_left_27 : decode cX8_left 27 = .ok (.iadd, 1) := by decide +kernel
theorem dX8_left_28 : decode cX8_left 28 = .ok (.iaload, 1) := by decide +kernel
theorem dX8_left_29 : decode cX8_left 29 = .ok (.isub, 1) := by decide +kernel
theorem dX8_left_30 : decode cX8_left 30 = .ok (.istore_n 2, 1) := by decide +kernel
theorem dX8_left_31 : decode cX8_left 31 = .ok (.iinc 3 1, 3) := by decide +kernel
theorem dX8_left_34 : decode cX8_left 34 = .ok (.goto (-25), 3) := by decide +kernel
theorem dX8_left_37 : decode cX8_left 37 = .ok (.iload_n 2, 1) := by decide +kernel
theorem dX8_left_38 : decode cX8_left 38 = .ok (.ireturn, 1) := by decide +kernel
theorem dX8_lacks_0 : decode cX8_lacks 0 = .ok (.aload_n 0, 1) := by decide +kernel
theorem dX8_lacks_1 : decode cX8_lacks 1 = .ok (.getfield 81, 3) := by decide +kernel
theorem dX8_lacks_4 : decode cX8_lacks 4 = .ok (.iload_n 1, 1) := by decide +kernel
theorem dX8_lacks_5 : decode cX8_lacks 5 = .ok (.iaload, 1) := by decide +kernel
theorem dX8_lacks_6 : decode cX8_lacks 6 = .ok (.istore_n 2, 1) := by decide +kernel
theorem dX8_lacks_7 : decode cX8_lacks 7 = .ok (.iconst 0, 1) := by decide +kernel
theorem dX8_lacks_8 : decode cX8_lacks 8 = .ok (.istore_n 3, 1) := by decide +kernel
theorem dX8_lacks_9 : decode cX8_lacks 9 = .ok (.iload_n 3, 1) := by decide +kernel
theorem dX8_lacks_10 : decode cX8_lacks 10 = .ok (.aload_n 0, 1) := by decide +kernel
theorem dX8_lacks_11 : decode cX8_lacks 11 = .ok (.getfield 115, 3) := by decide +kernel
theorem dX8_lacks_14 : decode cX8_lacks 14 = .ok (.if_icmp .ge 23, 3) := by decide +kernel
theorem dX8_lacks_17 : decode cX8_lacks 17 = .ok (.iload_n 2, 1) := by decide +kernel
theorem dX8_lacks_18 : decode cX8_lacks 18 = .ok (.aload_n 0, 1) := by decide +kernel
theorem dX8_lacks_19 : decode cX8_lacks 19 = .ok (.getfield 105, 3) := by decide +kernel
theorem dX8_lacks_22 : decode cX8_lacks 22 = .ok (.bipush 10, 2) := by decide +kernel
theorem dX8_lacks_24 : decode cX8_lacks 24 = .ok (.iload_n 3, 1) := by decide +kernel
theorem dX8_lacks_25 : decode cX8_lacks 25 = .ok (.imul, 1) := by decide +kernel
theorem dX8_lacks_26 : decode cX8_lacks 26 = .ok (.iload_n 1, 1) := by decide +kernel
theorem dX8_lacks_27 : decode cX8_lacks 27 = .ok (.iadd, 1) := by decide +kernel
theorem dX8_lacks_28 : decode cX8_lacks 28 = .ok (.iaload, 1) := by decide +kernel
theorem dX8_lacks_29 : decode cX8_lacks 29 = .ok (.isub, 1) := by decide +kernel
theorem dX8_lacks_30 : decode cX8_lacks 30 = .ok (.istore_n 2, 1) := by decide +kernel
theorem dX8_lacks_31 : decode cX8_lacks 31 = .ok (.iinc 3 1, 3) := by decide +kernel
theorem dX8_lacks_34 : decode cX8_lacks 34 = .ok (.goto (-25), 3) := by decide +kernel
theorem dX8_lacks_37 : decode cX8_lacks 37 = .ok (.iload_n 2, 1) := by decide +kernel
theorem dX8_lacks_38 : decode cX8_lacks 38 = .ok (.ireturn, 1) := by decide +kernel
theorem dX8_carryOne_0 : decode cX8_carryOne 0 = .ok (.iconst 0, 1) := by decide +kernel
theorem dX8_carryOne_1 : decode cX8_carryOne 1 = .ok (.istore_n 1, 1) := by decide +kernel
theorem dX8_carryOne_2 : decode cX8_carryOne 2 = .ok (.iload_n 1, 1) := by decide +kernel
theorem dX8_carryOne_3 : decode cX8_carryOne 3 = .ok (.bipush 20, 2) := by decide +kernel
theorem dX8_carryOne_5 : decode cX8_carryOne 5 = .ok (.if_icmp .ge 45, 3) := by decide +kernel
theorem dX8_carryOne_8 : decode cX8_carryOne 8 = .ok (.aload_n 0, 1) := by decide +kernel
theorem dX8_carryOne_9 : decode cX8_carryOne 9 = .ok (.getfield 108, 3) := by decide +kernel
theorem dX8_carryOne_12 : decode cX8_carryOne 12 = .ok (.iload_n 1, 1) := by decide +kernel
theorem dX8_carryOne_13 : decode cX8_carryOne 13 = .ok (.iload_n 1, 1) := by decide +kernel
theorem dX8_carryOne_14 : decode cX8_carryOne 14 = .ok (.aload_n 0, 1) := by decide +kernel
theorem dX8_carryOne_15 : decode cX8_carryOne 15 = .ok (.getfield 115, 3) := by decide +kernel
theorem dX8_carryOne_18 : decode cX8_carryOne 18 = .ok (.if_icmp .ge 15, 3) := by decide +kernel
theorem dX8_carryOne_21 : decode cX8_carryOne 21 = .ok (.aload_n 0, 1) := by decide +kernel
theorem dX8_carryOne_22 : decode cX8_carryOne 22 = .ok (.iload_n 1, 1) := by decide +kernel
theorem dX8_carryOne_23 : decode cX8_carryOne 23 = .ok (.invokevirtual 213, 3) := by decide +kernel
theorem dX8_carryOne_26 : decode cX8_carryOne 26 = .ok (.ifCond .le 7, 3) := by decide +kernel
theorem dX8_carryOne_29 : decode cX8_carryOne 29 = .ok (.iconst 0, 1) := by decide +kernel
theorem dX8_carryOne_30 : decode cX8_carryOne 30 = .ok (.goto 5, 3) := by decide +kernel
theorem dX8_carryOne_33 : decode cX8_carryOne 33 = .ok (.ldc 216, 2) := by decide +kernel
theorem dX8_carryOne_35 : decode cX8_carryOne 35 = .ok (.iastore, 1) := by decide +kernel
theorem dX8_carryOne_36 : decode cX8_carryOne 36 = .ok (.aload_n 0, 1) := by decide +kernel
theorem dX8_carryOne_37 : decode cX8_carryOne 37 = .ok (.getfield 111, 3) := by decide +kernel
theorem dX8_carryOne_40 : decode cX8_carryOne 40 = .ok (.iload_n 1, 1) := by decide +kernel
theorem dX8_carryOne_41 : decode cX8_carryOne 41 = .ok (.bipush (-9), 2) := by decide +kernel
theorem dX8_carryOne_43 : decode cX8_carryOne 43 = .ok (.iastore, 1) := by decide +kernel
theorem dX8_carryOne_44 : decode cX8_carryOne 44 = .ok (.iinc 1 1, 3) := by decide +kernel
theorem dX8_carryOne_47 : decode cX8_carryOne 47 = .ok (.goto (-45), 3) := by decide +kernel
theorem dX8_carryOne_50 : decode cX8_carryOne 50 = .ok (.iconst 1, 1) := by decide +kernel
theorem dX8_carryOne_51 : decode cX8_carryOne 51 = .ok (.istore_n 1, 1) := by decide +kernel
theorem dX8_carryOne_52 : decode cX8_carryOne 52 = .ok (.iload_n 1, 1) := by decide +kernel
theorem dX8_carryOne_53 : decode cX8_carryOne 53 = .ok (.ifCond .eq 192, 3) := by decide +kernel
theorem dX8_carryOne_56 : decode cX8_carryOne 56 = .ok (.iconst 0, 1) := by decide +kernel
theorem dX8_carryOne_57 : decode cX8_carryOne 57 = .ok (.istore_n 1, 1) := by decide +kernel
theorem dX8_carryOne_58 : decode cX8_carryOne 58 = .ok (.iconst 0, 1) := by decide +kernel
theorem dX8_carryOne_59 : decode cX8_carryOne 59 = .ok (.istore_n 2, 1) := by decide +kernel
theorem dX8_carryOne_60 : decode cX8_carryOne 60 = .ok (.iload_n 2, 1) := by decide +kernel
theorem dX8_carryOne_61 : decode cX8_carryOne 61 = .ok (.aload_n 0, 1) := by decide +kernel
theorem dX8_carryOne_62 : decode cX8_carryOne 62 = .ok (.getfield 115, 3) := by decide +kernel
theorem dX8_carryOne_65 : decode cX8_carryOne 65 = .ok (.if_icmp .ge 177, 3) := by decide +kernel
theorem dX8_carryOne_68 : decode cX8_carryOne 68 = .ok (.iconst 0, 1) := by decide +kernel
theorem dX8_carryOne_69 : decode cX8_carryOne 69 = .ok (.istore_n 3, 1) := by decide +kernel
theorem dX8_carryOne_70 : decode cX8_carryOne 70 = .ok (.iload_n 3, 1) := by decide +kernel
theorem dX8_carryOne_71 : decode cX8_carryOne 71 = .ok (.aload_n 0, 1) := by decide +kernel
theorem dX8_carryOne_72 : decode cX8_carryOne 72 = .ok (.getfield 115, 3) := by decide +kernel
theorem dX8_carryOne_75 : decode cX8_carryOne 75 = .ok (.if_icmp .ge 161, 3) := by decide +kernel
theorem dX8_carryOne_78 : decode cX8_carryOne 78 = .ok (.aload_n 0, 1) := by decide +kernel
theorem dX8_carryOne_79 : decode cX8_carryOne 79 = .ok (.getfield 108, 3) := by decide +kernel
theorem dX8_carryOne_82 : decode cX8_carryOne 82 = .ok (.iload_n 2, 1) := by decide +kernel
theorem dX8_carryOne_83 : decode cX8_carryOne 83 = .ok (.iaload, 1) := by decide +kernel
theorem dX8_carryOne_84 : decode cX8_carryOne 84 = .ok (.aload_n 0, 1) := by decide +kernel
theorem dX8_carryOne_85 : decode cX8_carryOne 85 = .ok (.getfield 84, 3) := by decide +kernel
theorem dX8_carryOne_88 : decode cX8_carryOne 88 = .ok (.bipush 10, 2) := by decide +kernel
theorem dX8_carryOne_90 : decode cX8_carryOne 90 = .ok (.iload_n 2, 1) := by decide +kernel
theorem dX8_carryOne_91 : decode cX8_carryOne 91 = .ok (.imul, 1) := by decide +kernel
theorem dX8_carryOne_92 : decode cX8_carryOne 92 = .ok (.iload_n 3, 1) := by decide +kernel
theorem dX8_carryOne_93 : decode cX8_carryOne 93 = .ok (.iadd, 1) := by decide +kernel
theorem dX8_carryOne_94 : decode cX8_carryOne 94 = .ok (.iaload, 1) := by decide +kernel
theorem dX8_carryOne_95 : decode cX8_carryOne 95 = .ok (.iadd, 1) := by decide +kernel
theorem dX8_carryOne_96 : decode cX8_carryOne 96 = .ok (.aload_n 0, 1) := by decide +kernel
theorem dX8_carryOne_97 : decode cX8_carryOne 97 = .ok (.getfield 108, 3) := by decide +kernel
theorem dX8_carryOne_100 : decode cX8_carryOne 100 = .ok (.bipush 10, 2) := by decide +kernel
theorem dX8_carryOne_102 : decode cX8_carryOne 102 = .ok (.iload_n 3, 1) := by decide +kernel
theorem dX8_carryOne_103 : decode cX8_carryOne 103 = .ok (.iadd, 1) := by decide +kernel
theorem dX8_carryOne_104 : decode cX8_carryOne 104 = .ok (.iaload, 1) := by decide +kernel
theorem dX8_carryOne_105 : decode cX8_carryOne 105 = .ok (.if_icmp .ge 42, 3) := by decide +kernel
theorem dX8_carryOne_108 : decode cX8_carryOne 108 = .ok (.aload_n 0, 1) := by decide +kernel
theorem dX8_carryOne_109 : decode cX8_carryOne 109 = .ok (.getfield 108, 3) := by decide +kernel
theorem dX8_carryOne_112 : decode cX8_carryOne 112 = .ok (.bipush 10, 2) := by decide +kernel
theorem dX8_carryOne_114 : decode cX8_carryOne 114 = .ok (.iload_n 3, 1) := by decide +kernel
theorem dX8_carryOne_115 : decode cX8_carryOne 115 = .ok (.iadd, 1) := by decide +kernel
theorem dX8_carryOne_116 : decode cX8_carryOne 116 = .ok (.aload_n 0, 1) := by decide +kernel
theorem dX8_carryOne_117 : decode cX8_carryOne 117 = .ok (.getfield 108, 3) := by decide +kernel
theorem dX8_carryOne_120 : decode cX8_carryOne 120 = .ok (.iload_n 2, 1) := by decide +kernel
theorem dX8_carryOne_121 : decode cX8_carryOne 121 = .ok (.iaload, 1) := by decide +kernel
theorem dX8_carryOne_122 : decode cX8_carryOne 122 = .ok (.aload_n 0, 1) := by decide +kernel
theorem dX8_carryOne_123 : decode cX8_carryOne 123 = .ok (.getfield 84, 3) := by decide +kernel
theorem dX8_carryOne_126 : decode cX8_carryOne 126 = .ok (.bipush 10, 2) := by decide +kernel
theorem dX8_carryOne_128 : decode cX8_carryOne 128 = .ok (.iload_n 2, 1) := by decide +kernel
theorem dX8_carryOne_129 : decode cX8_carryOne 129 = .ok (.imul, 1) := by decide +kernel
theorem dX8_carryOne_130 : decode cX8_carryOne 130 = .ok (.iload_n 3, 1) := by decide +kernel
theorem dX8_carryOne_131 : decode cX8_carryOne 131 = .ok (.iadd, 1) := by decide +kernel
theorem dX8_carryOne_132 : decode cX8_carryOne 132 = .ok (.iaload, 1) := by decide +kernel
theorem dX8_carryOne_133 : decode cX8_carryOne 133 = .ok (.iadd, 1) := by decide +kernel
theorem dX8_carryOne_134 : decode cX8_carryOne 134 = .ok (.iastore, 1) := by decide +kernel
theorem dX8_carryOne_135 : decode cX8_carryOne 135 = .ok (.aload_n 0, 1) := by decide +kernel
theorem dX8_carryOne_136 : decode cX8_carryOne 136 = .ok (.getfield 111, 3) := by decide +kernel
theorem dX8_carryOne_139 : decode cX8_carryOne 139 = .ok (.bipush 10, 2) := by decide +kernel
theorem dX8_carryOne_141 : decode cX8_carryOne 141 = .ok (.iload_n 3, 1) := by decide +kernel
theorem dX8_carryOne_142 : decode cX8_carryOne 142 = .ok (.iadd, 1) := by decide +kernel
theorem dX8_carryOne_143 : decode cX8_carryOne 143 = .ok (.iload_n 2, 1) := by decide +kernel
theorem dX8_carryOne_144 : decode cX8_carryOne 144 = .ok (.iastore, 1) := by decide +kernel
theorem dX8_carryOne_145 : decode cX8_carryOne 145 = .ok (.iconst 1, 1) := by decide +kernel
theorem dX8_carryOne_146 : decode cX8_carryOne 146 = .ok (.istore_n 1, 1) := by decide +kernel
theorem dX8_carryOne_147 : decode cX8_carryOne 147 = .ok (.aload_n 0, 1) := by decide +kernel
theorem dX8_carryOne_148 : decode cX8_carryOne 148 = .ok (.getfield 105, 3) := by decide +kernel
theorem dX8_carryOne_151 : decode cX8_carryOne 151 = .ok (.bipush 10, 2) := by decide +kernel
theorem dX8_carryOne_153 : decode cX8_carryOne 153 = .ok (.iload_n 2, 1) := by decide +kernel
theorem dX8_carryOne_154 : decode cX8_carryOne 154 = .ok (.imul, 1) := by decide +kernel
theorem dX8_carryOne_155 : decode cX8_carryOne 155 = .ok (.iload_n 3, 1) := by decide +kernel
theorem dX8_carryOne_156 : decode cX8_carryOne 156 = .ok (.iadd, 1) := by decide +kernel
theorem dX8_carryOne_157 : decode cX8_carryOne 157 = .ok (.iaload, 1) := by decide +kernel
theorem dX8_carryOne_158 : decode cX8_carryOne 158 = .ok (.ifCond .le 72, 3) := by decide +kernel
theorem dX8_carryOne_161 : decode cX8_carryOne 161 = .ok (.aload_n 0, 1) := by decide +kernel
theorem dX8_carryOne_162 : decode cX8_carryOne 162 = .ok (.getfield 108, 3) := by decide +kernel
theorem dX8_carryOne_165 : decode cX8_carryOne 165 = .ok (.bipush 10, 2) := by decide +kernel
theorem dX8_carryOne_167 : decode cX8_carryOne 167 = .ok (.iload_n 3, 1) := by decide +kernel
theorem dX8_carryOne_168 : decode cX8_carryOne 168 = .ok (.iadd, 1) := by decide +kernel
theorem dX8_carryOne_169 : decode cX8_carryOne 169 = .ok (.iaload, 1) := by decide +kernel
theorem dX8_carryOne_170 : decode cX8_carryOne 170 = .ok (.aload_n 0, 1) := by decide +kernel
theorem dX8_carryOne_171 : decode cX8_carryOne 171 = .ok (.getfield 84, 3) := by decide +kernel
theorem dX8_carryOne_174 : decode cX8_carryOne 174 = .ok (.bipush 10, 2) := by decide +kernel
theorem dX8_carryOne_176 : decode cX8_carryOne 176 = .ok (.iload_n 2, 1) := by decide +kernel
theorem dX8_carryOne_177 : decode cX8_carryOne 177 = .ok (.imul, 1) := by decide +kernel
theorem dX8_carryOne_178 : decode cX8_carryOne 178 = .ok (.iload_n 3, 1) := by decide +kernel
theorem dX8_carryOne_179 : decode cX8_carryOne 179 = .ok (.iadd, 1) := by decide +kernel
theorem dX8_carryOne_180 : decode cX8_carryOne 180 = .ok (.iaload, 1) := by decide +kernel
theorem dX8_carryOne_181 : decode cX8_carryOne 181 = .ok (.isub, 1) := by decide +kernel
theorem dX8_carryOne_182 : decode cX8_carryOne 182 = .ok (.aload_n 0, 1) := by decide +kernel
theorem dX8_carryOne_183 : decode cX8_carryOne 183 = .ok (.getfield 108, 3) := by decide +kernel
theorem dX8_carryOne_186 : decode cX8_carryOne 186 = .ok (.iload_n 2, 1) := by decide +kernel
theorem dX8_carryOne_187 : decode cX8_carryOne 187 = .ok (.iaload, 1) := by decide +kernel
theorem dX8_carryOne_188 : decode cX8_carryOne 188 = .ok (.if_icmp .ge 42, 3) := by decide +kernel
theorem dX8_carryOne_191 : decode cX8_carryOne 191 = .ok (.aload_n 0, 1) := by decide +kernel
theorem dX8_carryOne_192 : decode cX8_carryOne 192 = .ok (.getfield 108, 3) := by decide +kernel
theorem dX8_carryOne_195 : decode cX8_carryOne 195 = .ok (.iload_n 2, 1) := by decide +kernel
theorem dX8_carryOne_196 : decode cX8_carryOne 196 = .ok (.aload_n 0, 1) := by decide +kernel
theorem dX8_carryOne_197 : decode cX8_carryOne 197 = .ok (.getfield 108, 3) := by decide +kernel
theorem dX8_carryOne_200 : decode cX8_carryOne 200 = .ok (.bipush 10, 2) := by decide +kernel
theorem dX8_carryOne_202 : decode cX8_carryOne 202 = .ok (.iload_n 3, 1) := by decide +kernel
theorem dX8_carryOne_203 : decode cX8_carryOne 203 = .ok (.iadd, 1) := by decide +kernel
theorem dX8_carryOne_204 : decode cX8_carryOne 204 = .ok (.iaload, 1) := by decide +kernel
theorem dX8_carryOne_205 : decode cX8_carryOne 205 = .ok (.aload_n 0, 1) := by decide +kernel
theorem dX8_carryOne_206 : decode cX8_carryOne 206 = .ok (.getfield 84, 3) := by decide +kernel
theorem dX8_carryOne_209 : decode cX8_carryOne 209 = .ok (.bipush 10, 2) := by decide +kernel
theorem dX8_carryOne_211 : decode cX8_carryOne 211 = .ok (.iload_n 2, 1) := by decide +kernel
theorem dX8_carryOne_212 : decode cX8_carryOne 212 = .ok (.imul, 1) := by decide +kernel
theorem dX8_carryOne_213 : decode cX8_carryOne 213 = .ok (.iload_n 3, 1) := by decide +kernel
theorem dX8_carryOne_214 : decode cX8_carryOne 214 = .ok (.iadd, 1) := by decide +kernel
theorem dX8_carryOne_215 : decode cX8_carryOne 215 = .ok (.iaload, 1) := by decide +kernel
theorem dX8_carryOne_216 : decode cX8_carryOne 216 = .ok (.isub, 1) := by decide +kernel
theorem dX8_carryOne_217 : decode cX8_carryOne 217 = .ok (.iastore, 1) := by decide +kernel
theorem dX8_carryOne_218 : decode cX8_carryOne 218 = .ok (.aload_n 0, 1) := by decide +kernel
theorem dX8_carryOne_219 : decode cX8_carryOne 219 = .ok (.getfield 111, 3) := by decide +kernel
theorem dX8_carryOne_222 : decode cX8_carryOne 222 = .ok (.iload_n 2, 1) := by decide +kernel
theorem dX8_carryOne_223 : decode cX8_carryOne 223 = .ok (.bipush 10, 2) := by decide +kernel
theorem dX8_carryOne_225 : decode cX8_carryOne 225 = .ok (.iload_n 3, 1) := by decide +kernel
theorem dX8_carryOne_226 : decode cX8_carryOne 226 = .ok (.iadd, 1) := by decide +kernel
theorem dX8_carryOne_227 : decode cX8_carryOne 227 = .ok (.iastore, 1) := by decide +kernel
theorem dX8_carryOne_228 : decode cX8_carryOne 228 = .ok (.iconst 1, 1) := by decide +kernel
theorem dX8_carryOne_229 : decode cX8_carryOne 229 = .ok (.istore_n 1, 1) := by decide +kernel
theorem dX8_carryOne_230 : decode cX8_carryOne 230 = .ok (.iinc 3 1, 3) := by decide +kernel
theorem dX8_carryOne_233 : decode cX8_carryOne 233 = .ok (.goto (-163), 3) := by decide +kernel
theorem dX8_carryOne_236 : decode cX8_carryOne 236 = .ok (.iinc 2 1, 3) := by decide +kernel
theorem dX8_carryOne_239 : decode cX8_carryOne 239 = .ok (.goto (-179), 3) := by decide +kernel
theorem dX8_carryOne_242 : decode cX8_carryOne 242 = .ok (.goto (-190), 3) := by decide +kernel
theorem dX8_carryOne_245 : decode cX8_carryOne 245 = .ok (.bipush (-9), 2) := by decide +kernel
theorem dX8_carryOne_247 : decode cX8_carryOne 247 = .ok (.istore_n 2, 1) := by decide +kernel
theorem dX8_carryOne_248 : decode cX8_carryOne 248 = .ok (.iconst 0, 1) := by decide +kernel
theorem dX8_carryOne_249 : decode cX8_carryOne 249 = .ok (.istore_n 3, 1) := by decide +kernel
theorem dX8_carryOne_250 : decode cX8_carryOne 250 = .ok (.iload_n 3, 1) := by decide +kernel
theorem dX8_carryOne_251 : decode cX8_carryOne 251 = .ok (.aload_n 0, 1) := by decide +kernel
theorem dX8_carryOne_252 : decode cX8_carryOne 252 = .ok (.getfield 115, 3) := by decide +kernel
theorem dX8_carryOne_255 : decode cX8_carryOne 255 = .ok (.if_icmp .ge 50, 3) := by decide +kernel
theorem dX8_carryOne_258 : decode cX8_carryOne 258 = .ok (.aload_n 0, 1) := by decide +kernel
theorem dX8_carryOne_259 : decode cX8_carryOne 259 = .ok (.iload_n 3, 1) := by decide +kernel
theorem dX8_carryOne_260 : decode cX8_carryOne 260 = .ok (.invokevirtual 217, 3) := by decide +kernel
theorem dX8_carryOne_263 : decode cX8_carryOne 263 = .ok (.ifCond .le 34, 3) := by decide +kernel
theorem dX8_carryOne_266 : decode cX8_carryOne 266 = .ok (.iload_n 2, 1) := by decide +kernel
theorem dX8_carryOne_267 : decode cX8_carryOne 267 = .ok (.bipush (-9), 2) := by decide +kernel
theorem dX8_carryOne_269 : decode cX8_carryOne 269 = .ok (.if_icmp .eq 24, 3) := by decide +kernel
theorem dX8_carryOne_272 : decode cX8_carryOne 272 = .ok (.aload_n 0, 1) := by decide +kernel
theorem dX8_carryOne_273 : decode cX8_carryOne 273 = .ok (.getfield 108, 3) := by decide +kernel
theorem dX8_carryOne_276 : decode cX8_carryOne 276 = .ok (.bipush 10, 2) := by decide +kernel
theorem dX8_carryOne_278 : decode cX8_carryOne 278 = .ok (.iload_n 3, 1) := by decide +kernel
theorem dX8_carryOne_279 : decode cX8_carryOne 279 = .ok (.iadd, 1) := by decide +kernel
theorem dX8_carryOne_280 : decode cX8_carryOne 280 = .ok (.iaload, 1) := by decide +kernel
theorem dX8_carryOne_281 : decode cX8_carryOne 281 = .ok (.aload_n 0, 1) := by decide +kernel
theorem dX8_carryOne_282 : decode cX8_carryOne 282 = .ok (.getfield 108, 3) := by decide +kernel
theorem dX8_carryOne_285 : decode cX8_carryOne 285 = .ok (.bipush 10, 2) := by decide +kernel
theorem dX8_carryOne_287 : decode cX8_carryOne 287 = .ok (.iload_n 2, 1) := by decide +kernel
theorem dX8_carryOne_288 : decode cX8_carryOne 288 = .ok (.iadd, 1) := by decide +kernel
theorem dX8_carryOne_289 : decode cX8_carryOne 289 = .ok (.iaload, 1) := by decide +kernel
theorem dX8_carryOne_290 : decode cX8_carryOne 290 = .ok (.if_icmp .ge 7, 3) := by decide +kernel
theorem dX8_carryOne_293 : decode cX8_carryOne 293 = .ok (.iload_n 3, 1) := by decide +kernel
theorem dX8_carryOne_294 : decode cX8_carryOne 294 = .ok (.goto 4, 3) := by decide +kernel
theorem dX8_carryOne_297 : decode cX8_carryOne 297 = .ok (.iload_n 2, 1) := by decide +kernel
theorem dX8_carryOne_298 : decode cX8_carryOne 298 = .ok (.istore_n 2, 1) := by decide +kernel
theorem dX8_carryOne_299 : decode cX8_carryOne 299 = .ok (.iinc 3 1, 3) := by decide +kernel
theorem dX8_carryOne_302 : decode cX8_carryOne 302 = .ok (.goto (-52), 3) := by decide +kernel
theorem dX8_carryOne_305 : decode cX8_carryOne 305 = .ok (.aload_n 0, 1) := by decide +kernel
theorem dX8_carryOne_306 : decode cX8_carryOne 306 = .ok (.getfield 108, 3) := by decide +kernel
theorem dX8_carryOne_309 : decode cX8_carryOne 309 = .ok (.bipush 10, 2) := by decide +kernel
theorem dX8_carryOne_311 : decode cX8_carryOne 311 = .ok (.iload_n 2, 1) := by decide +kernel
theorem dX8_carryOne_312 : decode cX8_carryOne 312 = .ok (.iadd, 1) := by decide +kernel
theorem dX8_carryOne_313 : decode cX8_carryOne 313 = .ok (.iaload, 1) := by decide +kernel
theorem dX8_carryOne_314 : decode cX8_carryOne 314 = .ok (.istore_n 3, 1) := by decide +kernel
theorem dX8_carryOne_315 : decode cX8_carryOne 315 = .ok (.bipush 10, 2) := by decide +kernel
theorem dX8_carryOne_317 : decode cX8_carryOne 317 = .ok (.iload_n 2, 1) := by decide +kernel
theorem dX8_carryOne_318 : decode cX8_carryOne 318 = .ok (.iadd, 1) := by decide +kernel
theorem dX8_carryOne_319 : decode cX8_carryOne 319 = .ok (.istore 4, 2) := by decide +kernel
theorem dX8_carryOne_321 : decode cX8_carryOne 321 = .ok (.aload_n 0, 1) := by decide +kernel
theorem dX8_carryOne_322 : decode cX8_carryOne 322 = .ok (.getfield 111, 3) := by decide +kernel
theorem dX8_carryOne_325 : decode cX8_carryOne 325 = .ok (.iload 4, 2) := by decide +kernel
theorem dX8_carryOne_327 : decode cX8_carryOne 327 = .ok (.iaload, 1) := by decide +kernel
theorem dX8_carryOne_328 : decode cX8_carryOne 328 = .ok (.bipush (-9), 2) := by decide +kernel
theorem dX8_carryOne_330 : decode cX8_carryOne 330 = .ok (.if_icmp .eq 81, 3) := by decide +kernel
theorem dX8_carryOne_333 : decode cX8_carryOne 333 = .ok (.iload 4, 2) := by decide +kernel
theorem dX8_carryOne_335 : decode cX8_carryOne 335 = .ok (.bipush 10, 2) := by decide +kernel
theorem dX8_carryOne_337 : decode cX8_carryOne 337 = .ok (.if_icmp .lt 22, 3) := by decide +kernel
theorem dX8_carryOne_340 : decode cX8_carryOne 340 = .ok (.bipush 10, 2) := by decide +kernel
theorem dX8_carryOne_342 : decode cX8_carryOne 342 = .ok (.aload_n 0, 1) := by decide +kernel
theorem dX8_carryOne_343 : decode cX8_carryOne 343 = .ok (.getfield 111, 3) := by decide +kernel
theorem dX8_carryOne_346 : decode cX8_carryOne 346 = .ok (.iload 4, 2) := by decide +kernel
theorem dX8_carryOne_348 : decode cX8_carryOne 348 = .ok (.iaload, 1) := by decide +kernel
theorem dX8_carryOne_349 : decode cX8_carryOne 349 = .ok (.imul, 1) := by decide +kernel
theorem dX8_carryOne_350 : decode cX8_carryOne 350 = .ok (.iload 4, 2) := by decide +kernel
theorem dX8_carryOne_352 : decode cX8_carryOne 352 = .ok (.iadd, 1) := by decide +kernel
theorem dX8_carryOne_353 : decode cX8_carryOne 353 = .ok (.bipush 10, 2) := by decide +kernel
theorem dX8_carryOne_355 : decode cX8_carryOne 355 = .ok (.isub, 1) := by decide +kernel
theorem dX8_carryOne_356 : decode cX8_carryOne 356 = .ok (.goto 19, 3) := by decide +kernel
theorem dX8_carryOne_359 : decode cX8_carryOne 359 = .ok (.bipush 10, 2) := by decide +kernel
theorem dX8_carryOne_361 : decode cX8_carryOne 361 = .ok (.iload 4, 2) := by decide +kernel
theorem dX8_carryOne_363 : decode cX8_carryOne 363 = .ok (.imul, 1) := by decide +kernel
theorem dX8_carryOne_364 : decode cX8_carryOne 364 = .ok (.aload_n 0, 1) := by decide +kernel
theorem dX8_carryOne_365 : decode cX8_carryOne 365 = .ok (.getfield 111, 3) := by decide +kernel
theorem dX8_carryOne_368 : decode cX8_carryOne 368 = .ok (.iload 4, 2) := by decide +kernel
theorem dX8_carryOne_370 : decode cX8_carryOne 370 = .ok (.iaload, 1) := by decide +kernel
theorem dX8_carryOne_371 : decode cX8_carryOne 371 = .ok (.iadd, 1) := by decide +kernel
theorem dX8_carryOne_372 : decode cX8_carryOne 372 = .ok (.bipush 10, 2) := by decide +kernel
theorem dX8_carryOne_374 : decode cX8_carryOne 374 = .ok (.isub, 1) := by decide +kernel
theorem dX8_carryOne_375 : decode cX8_carryOne 375 = .ok (.istore 5, 2) := by decide +kernel
theorem dX8_carryOne_377 : decode cX8_carryOne 377 = .ok (.aload_n 0, 1) := by decide +kernel
theorem dX8_carryOne_378 : decode cX8_carryOne 378 = .ok (.getfield 105, 3) := by decide +kernel
theorem dX8_carryOne_381 : decode cX8_carryOne 381 = .ok (.iload 5, 2) := by decide +kernel
theorem dX8_carryOne_383 : decode cX8_carryOne 383 = .ok (.dup2, 1) := by decide +kernel
theorem dX8_carryOne_384 : decode cX8_carryOne 384 = .ok (.iaload, 1) := by decide +kernel
theorem dX8_carryOne_385 : decode cX8_carryOne 385 = .ok (.iload 4, 2) := by decide +kernel
theorem dX8_carryOne_387 : decode cX8_carryOne 387 = .ok (.bipush 10, 2) := by decide +kernel
theorem dX8_carryOne_389 : decode cX8_carryOne 389 = .ok (.if_icmp .lt 7, 3) := by decide +kernel
theorem dX8_carryOne_392 : decode cX8_carryOne 392 = .ok (.iconst 1, 1) := by decide +kernel
theorem dX8_carryOne_393 : decode cX8_carryOne 393 = .ok (.goto 4, 3) := by decide +kernel
theorem dX8_carryOne_396 : decode cX8_carryOne 396 = .ok (.iconst (-1), 1) := by decide +kernel
theorem dX8_carryOne_397 : decode cX8_carryOne 397 = .ok (.iadd, 1) := by decide +kernel
theorem dX8_carryOne_398 : decode cX8_carryOne 398 = .ok (.iastore, 1) := by decide +kernel
theorem dX8_carryOne_399 : decode cX8_carryOne 399 = .ok (.aload_n 0, 1) := by decide +kernel
theorem dX8_carryOne_400 : decode cX8_carryOne 400 = .ok (.getfield 111, 3) := by decide +kernel
theorem dX8_carryOne_403 : decode cX8_carryOne 403 = .ok (.iload 4, 2) := by decide +kernel
theorem dX8_carryOne_405 : decode cX8_carryOne 405 = .ok (.iaload, 1) := by decide +kernel
theorem dX8_carryOne_406 : decode cX8_carryOne 406 = .ok (.istore 4, 2) := by decide +kernel
theorem dX8_carryOne_408 : decode cX8_carryOne 408 = .ok (.goto (-87), 3) := by decide +kernel
theorem dX8_carryOne_411 : decode cX8_carryOne 411 = .ok (.iload_n 3, 1) := by decide +kernel
theorem dX8_carryOne_412 : decode cX8_carryOne 412 = .ok (.ireturn, 1) := by decide +kernel
theorem dX8_check_0 : decode cX8_check 0 = .ok (.aload_n 0, 1) := by decide +kernel
theorem dX8_check_1 : decode cX8_check 1 = .ok (.iload_n 1, 1) := by decide +kernel
theorem dX8_check_2 : decode cX8_check 2 = .ok (.invokevirtual 143, 3) := by decide +kernel
theorem dX8_check_5 : decode cX8_check 5 = .ok (.ifCond .ne 5, 3) := by decide +kernel
theorem dX8_check_8 : decode cX8_check 8 = .ok (.iconst 0, 1) := by decide +kernel
theorem dX8_check_9 : decode cX8_check 9 = .ok (.ireturn, 1) := by decide +kernel
theorem dX8_check_10 : decode cX8_check 10 = .ok (.lconst 0, 1) := by decide +kernel
theorem dX8_check_11 : decode cX8_check 11 = .ok (.lstore_n 2, 1) := by decide +kernel
theorem dX8_check_12 : decode cX8_check 12 = .ok (.iconst 0, 1) := by decide +kernel
theorem dX8_check_13 : decode cX8_check 13 = .ok (.istore 4, 2) := by decide +kernel
theorem dX8_check_15 : decode cX8_check 15 = .ok (.iload 4, 2) := by decide +kernel
theorem dX8_check_17 : decode cX8_check 17 = .ok (.aload_n 0, 1) := by decide +kernel
theorem dX8_check_18 : decode cX8_check 18 = .ok (.getfield 133, 3) := by decide +kernel
theorem dX8_check_21 : decode cX8_check 21 = .ok (.if_icmp .ge 35, 3) := by decide +kernel
theorem dX8_check_24 : decode cX8_check 24 = .ok (.lload_n 2, 1) := by decide +kernel
theorem dX8_check_25 : decode cX8_check 25 = .ok (.aload_n 0, 1) := by decide +kernel
theorem dX8_check_26 : decode cX8_check 26 = .ok (.getfield 19, 3) := by decide +kernel
theorem dX8_check_29 : decode cX8_check 29 = .ok (.iload 4, 2) := by decide +kernel
theorem dX8_check_31 : decode cX8_check 31 = .ok (.iaload, 1) := by decide +kernel
theorem dX8_check_32 : decode cX8_check 32 = .ok (.iload_n 1, 1) := by decide +kernel
theorem dX8_check_33 : decode cX8_check 33 = .ok (.if_icmp .ne 14, 3) := by decide +kernel
theorem dX8_check_36 : decode cX8_check 36 = .ok (.aload_n 0, 1) := by decide +kernel
theorem dX8_check_37 : decode cX8_check 37 = .ok (.getfield 25, 3) := by decide +kernel
theorem dX8_check_40 : decode cX8_check 40 = .ok (.iload 4, 2) := by decide +kernel
theorem dX8_check_42 : decode cX8_check 42 = .ok (.iaload, 1) := by decide +kernel
theorem dX8_check_43 : decode cX8_check 43 = .ok (.i2l, 1) := by decide +kernel
theorem dX8_check_44 : decode cX8_check 44 = .ok (.goto 4, 3) := by decide +kernel
theorem dX8_check_47 : decode cX8_check 47 = .ok (.lconst 0, 1) := by decide +kernel
theorem dX8_check_48 : decode cX8_check 48 = .ok (.ladd, 1) := by decide +kernel
theorem dX8_check_49 : decode cX8_check 49 = .ok (.lstore_n 2, 1) := by decide +kernel
theorem dX8_check_50 : decode cX8_check 50 = .ok (.iinc 4 1, 3) := by decide +kernel
theorem dX8_check_53 : decode cX8_check 53 = .ok (.goto (-38), 3) := by decide +kernel
theorem dX8_check_56 : decode cX8_check 56 = .ok (.iconst 0, 1) := by decide +kernel
theorem dX8_check_57 : decode cX8_check 57 = .ok (.istore 4, 2) := by decide +kernel
theorem dX8_check_59 : decode cX8_check 59 = .ok (.iload 4, 2) := by decide +kernel
theorem dX8_check_61 : decode cX8_check 61 = .ok (.aload_n 0, 1) := by decide +kernel
theorem dX8_check_62 : decode cX8_check 62 = .ok (.getfield 115, 3) := by decide +kernel
theorem dX8_check_65 : decode cX8_check 65 = .ok (.if_icmp .ge 25, 3) := by decide +kernel
theorem dX8_check_68 : decode cX8_check 68 = .ok (.lload_n 2, 1) := by decide +kernel
theorem dX8_check_69 : decode cX8_check 69 = .ok (.aload_n 0, 1) := by decide +kernel
theorem dX8_check_70 : decode cX8_check 70 = .ok (.getfield 72, 3) := by decide +kernel
theorem dX8_check_73 : decode cX8_check 73 = .ok (.bipush 6, 2) := by decide +kernel
theorem dX8_check_75 : decode cX8_check 75 = .ok (.iload 4, 2) := by decide +kernel
theorem dX8_check_77 : decode cX8_check 77 = .ok (.imul, 1) := by decide +kernel
theorem dX8_check_78 : decode cX8_check 78 = .ok (.iload_n 1, 1) := by decide +kernel
theorem dX8_check_79 : decode cX8_check 79 = .ok (.iadd, 1) := by decide +kernel
theorem dX8_check_80 : decode cX8_check 80 = .ok (.iaload, 1) := by decide +kernel
theorem dX8_check_81 : decode cX8_check 81 = .ok (.i2l, 1) := by decide +kernel
theorem dX8_check_82 : decode cX8_check 82 = .ok (.ladd, 1) := by decide +kernel
theorem dX8_check_83 : decode cX8_check 83 = .ok (.lstore_n 2, 1) := by decide +kernel
theorem dX8_check_84 : decode cX8_check 84 = .ok (.iinc 4 1, 3) := by decide +kernel
theorem dX8_check_87 : decode cX8_check 87 = .ok (.goto (-28), 3) := by decide +kernel
theorem dX8_check_90 : decode cX8_check 90 = .ok (.lload_n 2, 1) := by decide +kernel
theorem dX8_check_91 : decode cX8_check 91 = .ok (.aload_n 0, 1) := by decide +kernel
theorem dX8_check_92 : decode cX8_check 92 = .ok (.getfield 28, 3) := by decide +kernel
theorem dX8_check_95 : decode cX8_check 95 = .ok (.iload_n 1, 1) := by decide +kernel
theorem dX8_check_96 : decode cX8_check 96 = .ok (.laload, 1) := by decide +kernel
theorem dX8_check_97 : decode cX8_check 97 = .ok (.lcmp, 1) := by decide +kernel
theorem dX8_check_98 : decode cX8_check 98 = .ok (.ifCond .ne 7, 3) := by decide +kernel
theorem dX8_check_101 : decode cX8_check 101 = .ok (.iconst 1, 1) := by decide +kernel
theorem dX8_check_102 : decode cX8_check 102 = .ok (.goto 4, 3) := by decide +kernel
theorem dX8_check_105 : decode cX8_check 105 = .ok (.iconst 0, 1) := by decide +kernel
theorem dX8_check_106 : decode cX8_check 106 = .ok (.ireturn, 1) := by decide +kernel
theorem dX8_count_0 : decode cX8_count 0 = .ok (.iconst 0, 1) := by decide +kernel
theorem dX8_count_1 : decode cX8_count 1 = .ok (.istore_n 2, 1) := by decide +kernel
theorem dX8_count_2 : decode cX8_count 2 = .ok (.iload_n 1, 1) := by decide +kernel
theorem dX8_count_3 : decode cX8_count 3 = .ok (.tableswitch 162 0 8 #[49, 54, 59, 64, 69, 74, 109, 114, 157], 49) := by decide +kernel
theorem dX8_count_52 : decode cX8_count 52 = .ok (.aload_n 0, 1) := by decide +kernel
theorem dX8_count_53 : decode cX8_count 53 = .ok (.getfield 130, 3) := by decide +kernel
theorem dX8_count_56 : decode cX8_count 56 = .ok (.ireturn, 1) := by decide +kernel
theorem dX8_count_57 : decode cX8_count 57 = .ok (.aload_n 0, 1) := by decide +kernel
theorem dX8_count_58 : decode cX8_count 58 = .ok (.getfield 115, 3) := by decide +kernel
theorem dX8_count_61 : decode cX8_count 61 = .ok (.ireturn, 1) := by decide +kernel
theorem dX8_count_62 : decode cX8_count 62 = .ok (.aload_n 0, 1) := by decide +kernel
theorem dX8_count_63 : decode cX8_count 63 = .ok (.getfield 123, 3) := by decide +kernel
theorem dX8_count_66 : decode cX8_count 66 = .ok (.ireturn, 1) := by decide +kernel
theorem dX8_count_67 : decode cX8_count 67 = .ok (.aload_n 0, 1) := by decide +kernel
theorem dX8_count_68 : decode cX8_count 68 = .ok (.getfield 133, 3) := by decide +kernel
theorem dX8_count_71 : decode cX8_count 71 = .ok (.ireturn, 1) := by decide +kernel
theorem dX8_count_72 : decode cX8_count 72 = .ok (.aload_n 0, 1) := by decide +kernel
theorem dX8_count_73 : decode cX8_count 73 = .ok (.getfield 158, 3) := by decide +kernel
theorem dX8_count_76 : decode cX8_count 76 = .ok (.ireturn, 1) := by decide +kernel
theorem dX8_count_77 : decode cX8_count 77 = .ok (.iconst 0, 1) := by decide +kernel
theorem dX8_count_78 : decode cX8_count 78 = .ok (.istore_n 3, 1) := by decide +kernel
theorem dX8_count_79 : decode cX8_count 79 = .ok (.iload_n 3, 1) := by decide +kernel
theorem dX8_count_80 : decode cX8_count 80 = .ok (.aload_n 0, 1) := by decide +kernel
theorem dX8_count_81 : decode cX8_count 81 = .ok (.getfield 158, 3) := by decide +kernel
theorem dX8_count_84 : decode cX8_count 84 = .ok (.if_icmp .ge 26, 3) := by decide +kernel
theorem dX8_count_87 : decode cX8_count 87 = .ok (.iload_n 2, 1) := by decide +kernel
theorem dX8_count_88 : decode cX8_count 88 = .ok (.aload_n 0, 1) := by decide +kernel
theorem dX8_count_89 : decode cX8_count 89 = .ok (.getfield 54, 3) := by decide +kernel
theorem dX8_count_92 : decode cX8_count 92 = .ok (.iload_n 3, 1) := by decide +kernel
theorem dX8_count_93 : decode cX8_count 93 = .ok (.iaload, 1) := by decide +kernel
theorem dX8_count_94 : decode cX8_count 94 = .ok (.ifCond .ne 7, 3) := by decide +kernel
theorem dX8_count_97 : decode cX8_count 97 = .ok (.iconst 1, 1) := by decide +kernel
theorem dX8_count_98 : decode cX8_count 98 = .ok (.goto 4, 3) := by decide +kernel
theorem dX8_count_101 : decode cX8_count 101 = .ok (.iconst 0, 1) := by decide +kernel
theorem dX8_count_102 : decode cX8_count 102 = .ok (.iadd, 1) := by decide +kernel
theorem dX8_count_103 : decode cX8_count 103 = .ok (.istore_n 2, 1) := by decide +kernel
theorem dX8_count_104 : decode cX8_count 104 = .ok (.iinc 3 1, 3) := by decide +kernel
theorem dX8_count_107 : decode cX8_count 107 = .ok (.goto (-28), 3) := by decide +kernel
theorem dX8_count_110 : decode cX8_count 110 = .ok (.iload_n 2, 1) := by decide +kernel
theorem dX8_count_111 : decode cX8_count 111 = .ok (.ireturn, 1) := by decide +kernel
theorem dX8_count_112 : decode cX8_count 112 = .ok (.aload_n 0, 1) := by decide +kernel
theorem dX8_count_113 : decode cX8_count 113 = .ok (.getfield 176, 3) := by decide +kernel
theorem dX8_count_116 : decode cX8_count 116 = .ok (.ireturn, 1) := by decide +kernel
theorem dX8_count_117 : decode cX8_count 117 = .ok (.iconst 0, 1) := by decide +kernel
theorem dX8_count_118 : decode cX8_count 118 = .ok (.istore_n 3, 1) := by decide +kernel
theorem dX8_count_119 : decode cX8_count 119 = .ok (.iload_n 3, 1) := by decide +kernel
theorem dX8_count_120 : decode cX8_count 120 = .ok (.aload_n 0, 1) := by decide +kernel
theorem dX8_count_121 : decode cX8_count 121 = .ok (.getfield 176, 3) := by decide +kernel
theorem dX8_count_124 : decode cX8_count 124 = .ok (.if_icmp .ge 34, 3) := by decide +kernel
theorem dX8_count_127 : decode cX8_count 127 = .ok (.iload_n 2, 1) := by decide +kernel
theorem dX8_count_128 : decode cX8_count 128 = .ok (.aload_n 0, 1) := by decide +kernel
theorem dX8_count_129 : decode cX8_count 129 = .ok (.iload_n 3, 1) := by decide +kernel
theorem dX8_count_130 : decode cX8_count 130 = .ok (.invokevirtual 183, 3) := by decide +kernel
theorem dX8_count_133 : decode cX8_count 133 = .ok (.ifCond .eq 16, 3) := by decide +kernel
theorem dX8_count_136 : decode cX8_count 136 = .ok (.aload_n 0, 1) := by decide +kernel
theorem dX8_count_137 : decode cX8_count 137 = .ok (.getfield 69, 3) := by decide +kernel
theorem dX8_count_140 : decode cX8_count 140 = .ok (.iload_n 3, 1) := by decide +kernel
theorem dX8_count_141 : decode cX8_count 141 = .ok (.baload, 1) := by decide +kernel
theorem dX8_count_142 : decode cX8_count 142 = .ok (.ifCond .ne 7, 3) := by decide +kernel
theorem dX8_count_145 : decode cX8_count 145 = .ok (.iconst 1, 1) := by decide +kernel
theorem dX8_count_146 : decode cX8_count 146 = .ok (.goto 4, 3) := by decide +kernel
theorem dX8_count_149 : decode cX8_count 149 = .ok (.iconst 0, 1) := by decide +kernel
theorem dX8_count_150 : decode cX8_count 150 = .ok (.iadd, 1) := by decide +kernel
theorem dX8_count_151 : decode cX8_count 151 = .ok (.istore_n 2, 1) := by decide +kernel
theorem dX8_count_152 : decode cX8_count 152 = .ok (.iinc 3 1, 3) := by decide +kernel
theorem dX8_count_155 : decode cX8_count 155 = .ok (.goto (-36), 3) := by decide +kernel
theorem dX8_count_158 : decode cX8_count 158 = .ok (.iload_n 2, 1) := by decide +kernel
theorem dX8_count_159 : decode cX8_count 159 = .ok (.ireturn, 1) := by decide +kernel
theorem dX8_count_160 : decode cX8_count 160 = .ok (.aload_n 0, 1) := by decide +kernel
theorem dX8_count_161 : decode cX8_count 161 = .ok (.getfield 136, 3) := by decide +kernel
theorem dX8_count_164 : decode cX8_count 164 = .ok (.ireturn, 1) := by decide +kernel
theorem dX8_count_165 : decode cX8_count 165 = .ok (.iload_n 1, 1) := by decide +kernel
theorem dX8_count_166 : decode cX8_count 166 = .ok (.bipush 11, 2) := by decide +kernel
theorem dX8_count_168 : decode cX8_count 168 = .ok (.bipush 16, 2) := by decide +kernel
theorem dX8_count_170 : decode cX8_count 170 = .ok (.invokestatic 119, 3) := by decide +kernel
theorem dX8_count_173 : decode cX8_count 173 = .ok (.ifCond .eq 15, 3) := by decide +kernel
theorem dX8_count_176 : decode cX8_count 176 = .ok (.aload_n 0, 1) := by decide +kernel
theorem dX8_count_177 : decode cX8_count 177 = .ok (.getfield 87, 3) := by decide +kernel
theorem dX8_count_180 : decode cX8_count 180 = .ok (.iload_n 1, 1) := by decide +kernel
theorem dX8_count_181 : decode cX8_count 181 = .ok (.bipush 10, 2) := by decide +kernel
theorem dX8_count_183 : decode cX8_count 183 = .ok (.isub, 1) := by decide +kernel
theorem dX8_count_184 : decode cX8_count 184 = .ok (.iaload, 1) := by decide +kernel
theorem dX8_count_185 : decode cX8_count 185 = .ok (.goto 5, 3) := by decide +kernel
theorem dX8_count_188 : decode cX8_count 188 = .ok (.bipush (-9), 2) := by decide +kernel
theorem dX8_count_190 : decode cX8_count 190 = .ok (.ireturn, 1) := by decide +kernel
theorem dJ9_abs_0f7a4_0 : decode cJ9_abs_0f7a4 0 = .ok (.iload_n 0, 1) := by decide +kernel
theorem dJ9_abs_0f7a4_1 : decode cJ9_abs_0f7a4 1 = .ok (.ifCond .ge 8, 3) := by decide +kernel
theorem dJ9_abs_0f7a4_4 : decode cJ9_abs_0f7a4 4 = .ok (.iload_n 0, 1) := by decide +kernel
theorem dJ9_abs_0f7a4_5 : decode cJ9_abs_0f7a4 5 = .ok (.ineg, 1) := by decide +kernel
theorem dJ9_abs_0f7a4_6 : decode cJ9_abs_0f7a4 6 = .ok (.goto 4, 3) := by decide +kernel
theorem dJ9_abs_0f7a4_9 : decode cJ9_abs_0f7a4 9 = .ok (.iload_n 0, 1) := by decide +kernel
theorem dJ9_abs_0f7a4_10 : decode cJ9_abs_0f7a4 10 = .ok (.ireturn, 1) := by decide +kernel
theorem dJ9_max_7cf53_0 : decode cJ9_max_7cf53 0 = .ok (.iload_n 0, 1) := by decide +kernel
theorem dJ9_max_7cf53_1 : decode cJ9_max_7cf53 1 = .ok (.iload_n 1, 1) := by decide +kernel
theorem dJ9_max_7cf53_2 : decode cJ9_max_7cf53 2 = .ok (.if_icmp .lt 7, 3) := by decide +kernel
theorem dJ9_max_7cf53_5 : decode cJ9_max_7cf53 5 = .ok (.iload_n 0, 1) := by decide +kernel
theorem dJ9_max_7cf53_6 : decode cJ9_max_7cf53 6 = .ok (.goto 4, 3) := by decide +kernel
theorem dJ9_max_7cf53_9 : decode cJ9_max_7cf53 9 = .ok (.iload_n 1, 1) := by decide +kernel
theorem dJ9_max_7cf53_10 : decode cJ9_max_7cf53 10 = .ok (.ireturn, 1) := by decide +kernel
theorem dJ9_max_f86c9_0 : decode cJ9_max_f86c9 0 = .ok (.lload_n 0, 1) := by decide +kernel
theorem dJ9_max_f86c9_1 : decode cJ9_max_f86c9 1 = .ok (.lload_n 2, 1) := by decide +kernel
theorem dJ9_max_f86c9_2 : decode cJ9_max_f86c9 2 = .ok (.lcmp, 1) := by decide +kernel
theorem dJ9_max_f86c9_3 : decode cJ9_max_f86c9 3 = .ok (.ifCond .lt 7, 3) := by decide +kernel
theorem dJ9_max_f86c9_6 : decode cJ9_max_f86c9 6 = .ok (.lload_n 0, 1) := by decide +kernel
theorem dJ9_max_f86c9_7 : decode cJ9_max_f86c9 7 = .ok (.goto 4, 3) := by decide +kernel
theorem dJ9_max_f86c9_10 : decode cJ9_max_f86c9 10 = .ok (.lload_n 2, 1) := by decide +kernel
theorem dJ9_max_f86c9_11 : decode cJ9_max_f86c9 11 = .ok (.lreturn, 1) := by decide +kernel
theorem dJ9_min_7cf53_0 : decode cJ9_min_7cf53 0 = .ok (.iload_n 0, 1) := by decide +kernel
theorem dJ9_min_7cf53_1 : decode cJ9_min_7cf53 1 = .ok (.iload_n 1, 1) := by decide +kernel
theorem dJ9_min_7cf53_2 : decode cJ9_min_7cf53 2 = .ok (.if_icmp .gt 7, 3) := by decide +kernel
theorem dJ9_min_7cf53_5 : decode cJ9_min_7cf53 5 = .ok (.iload_n 0, 1) := by decide +kernel
theorem dJ9_min_7cf53_6 : decode cJ9_min_7cf53 6 = .ok (.goto 4, 3) := by decide +kernel
theorem dJ9_min_7cf53_9 : decode cJ9_min_7cf53 9 = .ok (.iload_n 1, 1) := by decide +kernel
theorem dJ9_min_7cf53_10 : decode cJ9_min_7cf53 10 = .ok (.ireturn, 1) := by decide +kernel
theorem dJ7_fill_53178_0 : decode cJ7_fill_53178 0 = .ok (.iconst 0, 1) := by decide +kernel
theorem dJ7_fill_53178_1 : decode cJ7_fill_53178 1 = .ok (.istore_n 2, 1) := by decide +kernel
theorem dJ7_fill_53178_2 : decode cJ7_fill_53178 2 = .ok (.aload_n 0, 1) := by decide +kernel
theorem dJ7_fill_53178_3 : decode cJ7_fill_53178 3 = .ok (.arraylength, 1) := by decide +kernel
theorem dJ7_fill_53178_4 : decode cJ7_fill_53178 4 = .ok (.istore_n 3, 1) := by decide +kernel
theorem dJ7_fill_53178_5 : decode cJ7_fill_53178 5 = .ok (.iload_n 2, 1) := by decide +kernel
theorem dJ7_fill_53178_6 : decode cJ7_fill_53178 6 = .ok (.iload_n 3, 1) := by decide +kernel
theorem dJ7_fill_53178_7 : decode cJ7_fill_53178 7 = .ok (.if_icmp .ge 13, 3) := by decide +kernel
theorem dJ7_fill_53178_10 : decode cJ7_fill_53178 10 = .ok (.aload_n 0, 1) := by decide +kernel
theorem dJ7_fill_53178_11 : decode cJ7_fill_53178 11 = .ok (.iload_n 2, 1) := by decide +kernel
theorem dJ7_fill_53178_12 : decode cJ7_fill_53178 12 = .ok (.iload_n 1, 1) := by decide +kernel
theorem dJ7_fill_53178_13 : decode cJ7_fill_53178 13 = .ok (.iastore, 1) := by decide +kernel
theorem dJ7_fill_53178_14 : decode cJ7_fill_53178 14 = .ok (.iinc 2 1, 3) := by decide +kernel
theorem dJ7_fill_53178_17 : decode cJ7_fill_53178 17 = .ok (.goto (-12), 3) := by decide +kernel
theorem dJ7_fill_53178_20 : decode cJ7_fill_53178 20 = .ok (.return_, 1) := by decide +kernel
theorem dL_law_0 : decode cL_law 0 = .ok (.new 7, 3) := by decide +kernel
theorem dL_law_3 : decode cL_law 3 = .ok (.dup, 1) := by decide +kernel
theorem dL_law_4 : decode cL_law 4 = .ok (.invokespecial 9, 3) := by decide +kernel
theorem dL_law_7 : decode cL_law 7 = .ok (.astore_n 1, 1) := by decide +kernel
theorem dL_law_8 : decode cL_law 8 = .ok (.new 10, 3) := by decide +kernel
theorem dL_law_11 : decode cL_law 11 = .ok (.dup, 1) := by decide +kernel
theorem dL_law_12 : decode cL_law 12 = .ok (.invokespecial 12, 3) := by decide +kernel
theorem dL_law_15 : decode cL_law 15 = .ok (.astore_n 2, 1) := by decide +kernel
theorem dL_law_16 : decode cL_law 16 = .ok (.iconst 0, 1) := by decide +kernel
theorem dL_law_17 : decode cL_law 17 = .ok (.istore_n 3, 1) := by decide +kernel
theorem dL_law_18 : decode cL_law 18 = .ok (.iload_n 3, 1) := by decide +kernel
theorem dL_law_19 : decode cL_law 19 = .ok (.aload_n 0, 1) := by decide +kernel
theorem dL_law_20 : decode cL_law 20 = .ok (.arraylength, 1) := by decide +kernel
theorem dL_law_21 : decode cL_law 21 = .ok (.bipush 6, 2) := by decide +kernel
theorem dL_law_23 : decode cL_law 23 = .ok (.isub, 1) := by decide +kernel
theorem dL_law_24 : decode cL_law 24 = .ok (.if_icmp .gt 1101, 3) := by decide +kernel
theorem dL_law_27 : decode cL_law 27 = .ok (.aload_n 0, 1) := by decide +kernel
theorem dL_law_28 : decode cL_law 28 = .ok (.iload_n 3, 1) := by decide +kernel
theorem dL_law_29 : decode cL_law 29 = .ok (.iaload, 1) := by decide +kernel
theorem dL_law_30 : decode cL_law 30 = .ok (.bipush 31, 2) := by decide +kernel
theorem dL_law_32 : decode cL_law 32 = .ok (.iand, 1) := by decide +kernel
theorem dL_law_33 : decode cL_law 33 = .ok (.tableswitch 1086 0 28 #[131, 144, 177, 200, 243, 286, 365, 388, 411, 424, 457, 500, 543, 576, 609, 642, 676, 689, 723, 756, 789, 842, 885, 918, 941, 984, 1027, 1040, 1063], 131) := by decide +kernel
theorem dL_law_164 : decode cL_law 164 = .ok (.aload_n 1, 1) := by decide +kernel
theorem dL_law_165 : decode cL_law 165 = .ok (.invokevirtual 13, 3) := by decide +kernel
theorem dL_law_168 : decode cL_law 168 = .ok (.aload_n 2, 1) := by decide +kernel
theorem dL_law_169 : decode cL_law 169 = .ok (.invokevirtual 17, 3) := by decide +kernel
theorem dL_law_172 : decode cL_law 172 = .ok (.if_icmp .eq 947, 3) := by decide +kernel
theorem dL_law_175 : decode cL_law 175 = .ok (.iconst 0, 1) := by decide +kernel
theorem dL_law_176 : decode cL_law 176 = .ok (.ireturn, 1) := by decide +kernel
theorem dL_law_177 : decode cL_law 177 = .ok (.aload_n 1, 1) := by decide +kernel
theorem dL_law_178 : decode cL_law 178 = .ok (.aload_n 0, 1) := by decide +kernel
theorem dL_law_179 : decode cL_law 179 = .ok (.iload_n 3, 1) := by decide +kernel
theorem dL_law_180 : decode cL_law 180 = .ok (.iconst 1, 1) := by decide +kernel
theorem dL_law_181 : decode cL_law 181 = .ok (.iadd, 1) := by decide +kernel
theorem dL_law_182 : decode cL_law 182 = .ok (.iaload, 1) := by decide +kernel
theorem dL_law_183 : decode cL_law 183 = .ok (.aload_n 0, 1) := by decide +kernel
theorem dL_law_184 : decode cL_law 184 = .ok (.iload_n 3, 1) := by decide +kernel
theorem dL_law_185 : decode cL_law 185 = .ok (.iconst 2, 1) := by decide +kernel
theorem dL_law_186 : decode cL_law 186 = .ok (.iadd, 1) := by decide +kernel
theorem dL_law_187 : decode cL_law 187 = .ok (.iaload, 1) := by decide +kernel
theorem dL_law_188 : decode cL_law 188 = .ok (.invokevirtual 18, 3) := by decide +kernel
theorem dL_law_191 : decode cL_law 191 = .ok (.aload_n 2, 1) := by decide +kernel
theorem dL_law_192 : decode cL_law 192 = .ok (.aload_n 0, 1) := by decide +kernel
theorem dL_law_193 : decode cL_law 193 = .ok (.iload_n 3, 1) := by decide +kernel
theorem dL_law_194 : decode cL_law 194 = .ok (.iconst 1, 1) := by decide +kernel
theorem dL_law_195 : decode cL_law 195 = .ok (.iadd, 1) := by decide +kernel
theorem dL_law_196 : decode cL_law 196 = .ok (.iaload, 1) := by decide +kernel
theorem dL_law_197 : decode cL_law 197 = .ok (.aload_n 0, 1) := by decide +kernel
theorem dL_law_198 : decode cL_law 198 = .ok (.iload_n 3, 1) := by decide +kernel
theorem dL_law_199 : decode cL_law 199 = .ok (.iconst 2, 1) := by decide +kernel
theorem dL_law_200 : decode cL_law 200 = .ok (.iadd, 1) := by decide +kernel
theorem dL_law_201 : decode cL_law 201 = .ok (.iaload, 1) := by decide +kernel
theorem dL_law_202 : decode cL_law 202 = .ok (.invokevirtual 22, 3) := by decide +kernel
theorem dL_law_205 : decode cL_law 205 = .ok (.if_icmp .eq 914, 3) := by decide +kernel
theorem dL_law_208 : decode cL_law 208 = .ok (.iconst 0, 1) := by decide +kernel
theorem dL_law_209 : decode cL_law 209 = .ok (.ireturn, 1) := by decide +kernel
theorem dL_law_210 : decode cL_law 210 = .ok (.aload_n 1, 1) := by decide +kernel
theorem dL_law_211 : decode cL_law 211 = .ok (.aload_n 0, 1) := by decide +kernel
theorem dL_law_212 : decode cL_law 212 = .ok (.iload_n 3, 1) := by decide +kernel
theorem dL_law_213 : decode cL_law 213 = .ok (.iconst 1, 1) := by decide +kernel
theorem dL_law_214 : decode cL_law 214 = .ok (.iadd, 1) := by decide +kernel
theorem dL_law_215 : decode cL_law 215 = .ok (.iaload, 1) := by decide +kernel
theorem dL_law_216 : decode cL_law 216 = .ok (.invokevirtual 23, 3) := by decide +kernel
theorem dL_law_219 : decode cL_law 219 = .ok (.aload_n 2, 1) := by decide +kernel
theorem dL_law_220 : decode cL_law 220 = .ok (.aload_n 0, 1) := by decide +kernel
theorem dL_law_221 : decode cL_law 221 = .ok (.iload_n 3, 1) := by decide +kernel
theorem dL_law_222 : decode cL_law 222 = .ok (.iconst 1, 1) := by decide +kernel
theorem dL_law_223 : decode cL_law 223 = .ok (.iadd, 1) := by decide +kernel
theorem dL_law_224 : decode cL_law 224 = .ok (.iaload, 1) := by decide +kernel
theorem dL_law_225 : decode cL_law 225 = .ok (.invokevirtual 27, 3) := by decide +kernel
theorem dL_law_228 : decode cL_law 228 = .ok (.if_icmp .eq 891, 3) := by decide +kernel
theorem dL_law_231 : decode cL_law 231 = .ok (.iconst 0, 1) := by decide +kernel
theorem dL_law_232 : decode cL_law 232 = .ok (.ireturn, 1) := by decide +kernel
theorem dL_law_233 : decode cL_law 233 = .ok (.aload_n 1, 1) := by decide +kernel
theorem dL_law_234 : decode cL_law 234 = .ok (.aload_n 0, 1) := by decide +kernel
theorem dL_law_235 : decode cL_law 235 = .ok (.iload_n 3, 1) := by decide +kernel
theorem dL_law_236 : decode cL_law 236 = .ok (.iconst 1, 1) := by decide +kernel
theorem dL_law_237 : decode cL_law 237 = .ok (.iadd, 1) := by decide +kernel
theorem dL_law_238 : decode cL_law 238 = .ok (.iaload, 1) := by decide +kernel
theorem dL_law_239 : decode cL_law 239 = .ok (.aload_n 0, 1) := by decide +kernel
theorem dL_law_240 : decode cL_law 240 = .ok (.iload_n 3, 1) := by decide +kernel
theorem dL_law_241 : decode cL_law 241 = .ok (.iconst 2, 1) := by decide +kernel
theorem dL_law_242 : decode cL_law 242 = .ok (.iadd, 1) := by decide +kernel
theorem dL_law_243 : decode cL_law 243 = .ok (.iaload, 1) := by decide +kernel
theorem dL_law_244 : decode cL_law 244 = .ok (.aload_n 0, 1) := by decide +kernel
theorem dL_law_245 : decode cL_law 245 = .ok (.iload_n 3, 1) := by decide +kernel
theorem dL_law_246 : decode cL_law 246 = .ok (.iconst 3, 1) := by decide +kernel
theorem dL_law_247 : decode cL_law 247 = .ok (.iadd, 1) := by decide +kernel
theorem dL_law_248 : decode cL_law 248 = .ok (.iaload, 1) := by decide +kernel
theorem dL_law_249 : decode cL_law 249 = .ok (.invokevirtual 28, 3) := by decide +kernel
theorem dL_law_252 : decode cL_law 252 = .ok (.aload_n 2, 1) := by decide +kernel
theorem dL_law_253 : decode cL_law 253 = .ok (.aload_n 0, 1) := by decide +kernel
theorem dL_law_254 : decode cL_law 254 = .ok (.iload_n 3, 1) := by decide +kernel
theorem dL_law_255 : decode cL_law 255 = .ok (.iconst 1, 1) := by decide +kernel
theorem dL_law_256 : decode cL_law 256 = .ok (.iadd, 1) := by decide +kernel
theorem dL_law_257 : decode cL_law 257 = .ok (.iaload, 1) := by decide +kernel
theorem dL_law_258 : decode cL_law 258 = .ok (.aload_n 0, 1) := by decide +kernel
theorem dL_law_259 : decode cL_law 259 = .ok (.iload_n 3, 1) := by decide +kernel
theorem dL_law_260 : decode cL_law 260 = .ok (.iconst 2, 1) := by decide +kernel
theorem dL_law_261 : decode cL_law 261 = .ok (.iadd, 1) := by decide +kernel
theorem dL_law_262 : decode cL_law 262 = .ok (.iaload, 1) := by decide +kernel
theorem dL_law_263 : decode cL_law 263 = .ok (.aload_n 0, 1) := by decide +kernel
theorem dL_law_264 : decode cL_law 264 = .ok (.iload_n 3, 1) := by decide +kernel
theorem dL_law_265 : decode cL_law 265 = .ok (.iconst 3, 1) := by decide +kernel
theorem dL_law_266 : decode cL_law 266 = .ok (.iadd, 1) := by decide +kernel
theorem dL_law_267 : decode cL_law 267 = .ok (.iaload, 1) := by decide +kernel
theorem dL_law_268 : decode cL_law 268 = .ok (.invokevirtual 32, 3) := by decide +kernel
theorem dL_law_271 : decode cL_law 271 = .ok (.if_icmp .eq 848, 3) := by decide +kernel
theorem dL_law_274 : decode cL_law 274 = .ok (.iconst 0, 1) := by decide +kernel
theorem dL_law_275 : decode cL_law 275 = .ok (.ireturn, 1) := by decide +kernel
theorem dL_law_276 : decode cL_law 276 = .ok (.aload_n 1, 1) := by decide +kernel
theorem dL_law_277 : decode cL_law 277 = .ok (.aload_n 0, 1) := by decide +kernel
theorem dL_law_278 : decode cL_law 278 = .ok (.iload_n 3, 1) := by decide +kernel
theorem dL_law_279 : decode cL_law 279 = .ok (.iconst 1, 1) := by decide +kernel
theorem dL_law_280 : decode cL_law 280 = .ok (.iadd, 1) := by decide +kernel
theorem dL_law_281 : decode cL_law 281 = .ok (.iaload, 1) := by decide +kernel
theorem dL_law_282 : decode cL_law 282 = .ok (.aload_n 0, 1) := by decide +kernel
theorem dL_law_283 : decode cL_law 283 = .ok (.iload_n 3, 1) := by decide +kernel
theorem dL_law_284 : decode cL_law 284 = .ok (.iconst 2, 1) := by decide +kernel
theorem dL_law_285 : decode cL_law 285 = .ok (.iadd, 1) := by decide +kernel
theorem dL_law_286 : decode cL_law 286 = .ok (.iaload, 1) := by decide +kernel
theorem dL_law_287 : decode cL_law 287 = .ok (.aload_n 0, 1) := by decide +kernel
theorem dL_law_288 : decode cL_law 288 = .ok (.iload_n 3, 1) := by decide +kernel
theorem dL_law_289 : decode cL_law 289 = .ok (.iconst 3, 1) := by decide +kernel
theorem dL_law_290 : decode cL_law 290 = .ok (.iadd, 1) := by decide +kernel
theorem dL_law_291 : decode cL_law 291 = .ok (.iaload, 1) := by decide +kernel
theorem dL_law_292 : decode cL_law 292 = .ok (.invokevirtual 33, 3) := by decide +kernel
theorem dL_law_295 : decode cL_law 295 = .ok (.aload_n 2, 1) := by decide +kernel
theorem dL_law_296 : decode cL_law 296 = .ok (.aload_n 0, 1) := by decide +kernel
theorem dL_law_297 : decode cL_law 297 = .ok (.iload_n 3, 1) := by decide +kernel
theorem dL_law_298 : decode cL_law 298 = .ok (.iconst 1, 1) := by decide +kernel
theorem dL_law_299 : decode cL_law 299 = .ok (.iadd, 1) := by decide +kernel
theorem dL_law_300 : decode cL_law 300 = .ok (.iaload, 1) := by decide +kernel
theorem dL_law_301 : decode cL_law 301 = .ok (.aload_n 0, 1) := by decide +kernel
theorem dL_law_302 : decode cL_law 302 = .ok (.iload_n 3, 1) := by decide +kernel
theorem dL_law_303 : decode cL_law 303 = .ok (.iconst 2, 1) := by decide +kernel
theorem dL_law_304 : decode cL_law 304 = .ok (.iadd, 1) := by decide +kernel
theorem dL_law_305 : decode cL_law 305 = .ok (.iaload, 1) := by decide +kernel
theorem dL_law_306 : decode cL_law 306 = .ok (.aload_n 0, 1) := by decide +kernel
theorem dL_law_307 : decode cL_law 307 = .ok (.iload_n 3, 1) := by decide +kernel
theorem dL_law_308 : decode cL_law 308 = .ok (.iconst 3, 1) := by decide +kernel
theorem dL_law_309 : decode cL_law 309 = .ok (.iadd, 1) := by decide +kernel
theorem dL_law_310 : decode cL_law 310 = .ok (.iaload, 1) := by decide +kernel
theorem dL_law_311 : decode cL_law 311 = .ok (.invokevirtual 36, 3) := by decide +kernel
theorem dL_law_314 : decode cL_law 314 = .ok (.if_icmp .eq 805, 3) := by decide +kernel
theorem dL_law_317 : decode cL_law 317 = .ok (.iconst 0, 1) := by decide +kernel
theorem dL_law_318 : decode cL_law 318 = .ok (.ireturn, 1) := by decide +kernel
theorem dL_law_319 : decode cL_law 319 = .ok (.aload_n 1, 1) := by decide +kernel
theorem dL_law_320 : decode cL_law 320 = .ok (.aload_n 0, 1) := by decide +kernel
theorem dL_law_321 : decode cL_law 321 = .ok (.iload_n 3, 1) := by decide +kernel
theorem dL_law_322 : decode cL_law 322 = .ok (.iconst 1, 1) := by decide +kernel
theorem dL_law_323 : decode cL_law 323 = .ok (.iadd, 1) := by decide +kernel
theorem dL_law_324 : decode cL_law 324 = .ok (.iaload, 1) := by decide +kernel
theorem dL_law_325 : decode cL_law 325 = .ok (.ifCond .eq 7, 3) := by decide +kernel
theorem dL_law_328 : decode cL_law 328 = .ok (.iconst 1, 1) := by decide +kernel
theorem dL_law_329 : decode cL_law 329 = .ok (.goto 4, 3) := by decide +kernel
theorem dL_law_332 : decode cL_law 332 = .ok (.iconst 0, 1) := by decide +kernel
theorem dL_law_333 : decode cL_law 333 = .ok (.aload_n 0, 1) := by decide +kernel
theorem dL_law_334 : decode cL_law 334 = .ok (.iload_n 3, 1) := by decide +kernel
theorem dL_law_335 : decode cL_law 335 = .ok (.iconst 2, 1) := by decide +kernel
theorem dL_law_336 : decode cL_law 336 = .ok (.iadd, 1) := by decide +kernel
theorem dL_law_337 : decode cL_law 337 = .ok (.iaload, 1) := by decide +kernel
theorem dL_law_338 : decode cL_law 338 = .ok (.aload_n 0, 1) := by decide +kernel
theorem dL_law_339 : decode cL_law 339 = .ok (.iload_n 3, 1) := by decide +kernel
theorem dL_law_340 : decode cL_law 340 = .ok (.iconst 3, 1) := by decide +kernel
theorem dL_law_341 : decode cL_law 341 = .ok (.iadd, 1) := by decide +kernel
theorem dL_law_342 : decode cL_law 342 = .ok (.iaload, 1) := by decide +kernel
theorem dL_law_343 : decode cL_law 343 = .ok (.aload_n 0, 1) := by decide +kernel
theorem dL_law_344 : decode cL_law 344 = .ok (.iload_n 3, 1) := by decide +kernel
theorem dL_law_345 : decode cL_law 345 = .ok (.iconst 4, 1) := by decide +kernel
theorem dL_law_346 : decode cL_law 346 = .ok (.iadd, 1) := by decide +kernel
theorem dL_law_347 : decode cL_law 347 = .ok (.iaload, 1) := by decide +kernel
theorem dL_law_348 : decode cL_law 348 = .ok (.aload_n 0, 1) := by decide +kernel
theorem dL_law_349 : decode cL_law 349 = .ok (.iload_n 3, 1) := by decide +kernel
theorem dL_law_350 : decode cL_law 350 = .ok (.iconst 5, 1) := by decide +kernel
theorem dL_law_351 : decode cL_law 351 = .ok (.iadd, 1) := by decide +kernel
theorem dL_law_352 : decode cL_law 352 = .ok (.iaload, 1) := by decide +kernel
theorem dL_law_353 : decode cL_law 353 = .ok (.invokevirtual 37, 3) := by decide +kernel
theorem dL_law_356 : decode cL_law 356 = .ok (.aload_n 2, 1) := by decide +kernel
theorem dL_law_357 : decode cL_law 357 = .ok (.aload_n 0, 1) := by decide +kernel
theorem dL_law_358 : decode cL_law 358 = .ok (.iload_n 3, 1) := by decide +kernel
theorem dL_law_359 : decode cL_law 359 = .ok (.iconst 1, 1) := by decide +kernel
theorem dL_law_360 : decode cL_law 360 = .ok (.iadd, 1) := by decide +kernel
theorem dL_law_361 : decode cL_law 361 = .ok (.iaload, 1) := by decide +kernel
theorem dL_law_362 : decode cL_law 362 = .ok (.ifCond .eq 7, 3) := by decide +kernel
theorem dL_law_365 : decode cL_law 365 = .ok (.iconst 1, 1) := by decide +kernel
theorem dL_law_366 : decode cL_law 366 = .ok (.goto 4, 3) := by decide +kernel
theorem dL_law_369 : decode cL_law 369 = .ok (.iconst 0, 1) := by decide +kernel
theorem dL_law_370 : decode cL_law 370 = .ok (.aload_n 0, 1) := by decide +kernel
theorem dL_law_371 : decode cL_law 371 = .ok (.iload_n 3, 1) := by decide +kernel
theorem dL_law_372 : decode cL_law 372 = .ok (.iconst 2, 1) := by decide +kernel
theorem dL_law_373 : decode cL_law 373 = .ok (.iadd, 1) := by decide +kernel
theorem dL_law_374 : decode cL_law 374 = .ok (.iaload, 1) := by decide +kernel
theorem dL_law_375 : decode cL_law 375 = .ok (.aload_n 0, 1) := by decide +kernel
theorem dL_law_376 : decode cL_law 376 = .ok (.iload_n 3, 1) := by decide +kernel
theorem dL_law_377 : decode cL_law 377 = .ok (.iconst 3, 1) := by decide +kernel
theorem dL_law_378 : decode cL_law 378 = .ok (.iadd, 1) := by decide +kernel
theorem dL_law_379 : decode cL_law 379 = .ok (.iaload, 1) := by decide +kernel
theorem dL_law_380 : decode cL_law 380 = .ok (.aload_n 0, 1) := by decide +kernel
theorem dL_law_381 : decode cL_law 381 = .ok (.iload_n 3, 1) := by decide +kernel
theorem dL_law_382 : decode cL_law 382 = .ok (.iconst 4, 1) := by decide +kernel
theorem dL_law_383 : decode cL_law 383 = .ok (.iadd, 1) := by decide +kernel
theorem dL_law_384 : decode cL_law 384 = .ok (.iaload, 1) := by decide +kernel
theorem dL_law_385 : decode cL_law 385 = .ok (.aload_n 0, 1) := by decide +kernel
theorem dL_law_386 : decode cL_law 386 = .ok (.iload_n 3, 1) := by decide +kernel
theorem dL_law_387 : decode cL_law 387 = .ok (.iconst 5, 1) := by decide +kernel
theorem dL_law_388 : decode cL_law 388 = .ok (.iadd, 1) := by decide +kernel
theorem dL_law_389 : decode cL_law 389 = .ok (.iaload, 1) := by decide +kernel
theorem dL_law_390 : decode cL_law 390 = .ok (.invokevirtual 41, 3) := by decide +kernel
theorem dL_law_393 : decode cL_law 393 = .ok (.if_icmp .eq 726, 3) := by decide +kernel
theorem dL_law_396 : decode cL_law 396 = .ok (.iconst 0, 1) := by decide +kernel
theorem dL_law_397 : decode cL_law 397 = .ok (.ireturn, 1) := by decide +kernel
theorem dL_law_398 : decode cL_law 398 = .ok (.aload_n 1, 1) := by decide +kernel
theorem dL_law_399 : decode cL_law 399 = .ok (.aload_n 0, 1) := by decide +kernel
theorem dL_law_400 : decode cL_law 400 = .ok (.iload_n 3, 1) := by decide +kernel
theorem dL_law_401 : decode cL_law 401 = .ok (.iconst 1, 1) := by decide +kernel
theorem dL_law_402 : decode cL_law 402 = .ok (.iadd, 1) := by decide +kernel
theorem dL_law_403 : decode cL_law 403 = .ok (.iaload, 1) := by decide +kernel
theorem dL_law_404 : decode cL_law 404 = .ok (.invokevirtual 42, 3) := by decide +kernel
theorem dL_law_407 : decode cL_law 407 = .ok (.aload_n 2, 1) := by decide +kernel
theorem dL_law_408 : decode cL_law 408 = .ok (.aload_n 0, 1) := by decide +kernel
theorem dL_law_409 : decode cL_law 409 = .ok (.iload_n 3, 1) := by decide +kernel
theorem dL_law_410 : decode cL_law 410 = .ok (.iconst 1, 1) := by decide +kernel
theorem dL_law_411 : decode cL_law 411 = .ok (.iadd, 1) := by decide +kernel
theorem dL_law_412 : decode cL_law 412 = .ok (.iaload, 1) := by decide +kernel
theorem dL_law_413 : decode cL_law 413 = .ok (.invokevirtual 45, 3) := by decide +kernel
theorem dL_law_416 : decode cL_law 416 = .ok (.if_icmp .eq 703, 3) := by decide +kernel
theorem dL_law_419 : decode cL_law 419 = .ok (.iconst 0, 1) := by decide +kernel
theorem dL_law_420 : decode cL_law 420 = .ok (.ireturn, 1) := by decide +kernel
theorem dL_law_421 : decode cL_law 421 = .ok (.aload_n 1, 1) := by decide +kernel
theorem dL_law_422 : decode cL_law 422 = .ok (.aload_n 0, 1) := by decide +kernel
theorem dL_law_423 : decode cL_law 423 = .ok (.iload_n 3, 1) := by decide +kernel
theorem dL_law_424 : decode cL_law 424 = .ok (.iconst 1, 1) := by decide +kernel
theorem dL_law_425 : decode cL_law 425 = .ok (.iadd, 1) := by decide +kernel
theorem dL_law_426 : decode cL_law 426 = .ok (.iaload, 1) := by decide +kernel
theorem dL_law_427 : decode cL_law 427 = .ok (.invokevirtual 46, 3) := by decide +kernel
theorem dL_law_430 : decode cL_law 430 = .ok (.aload_n 2, 1) := by decide +kernel
theorem dL_law_431 : decode cL_law 431 = .ok (.aload_n 0, 1) := by decide +kernel
theorem dL_law_432 : decode cL_law 432 = .ok (.iload_n 3, 1) := by decide +kernel
theorem dL_law_433 : decode cL_law 433 = .ok (.iconst 1, 1) := by decide +kernel
theorem dL_law_434 : decode cL_law 434 = .ok (.iadd, 1) := by decide +kernel
theorem dL_law_435 : decode cL_law 435 = .ok (.iaload, 1) := by decide +kernel
theorem dL_law_436 : decode cL_law 436 = .ok (.invokevirtual 49, 3) := by decide +kernel
theorem dL_law_439 : decode cL_law 439 = .ok (.if_icmp .eq 680, 3) := by decide +kernel
theorem dL_law_442 : decode cL_law 442 = .ok (.iconst 0, 1) := by decide +kernel
theorem dL_law_443 : decode cL_law 443 = .ok (.ireturn, 1) := by decide +kernel
theorem dL_law_444 : decode cL_law 444 = .ok (.aload_n 1, 1) := by decide +kernel
theorem dL_law_445 : decode cL_law 445 = .ok (.invokevirtual 50, 3) := by decide +kernel
theorem dL_law_448 : decode cL_law 448 = .ok (.aload_n 2, 1) := by decide +kernel
theorem dL_law_449 : decode cL_law 449 = .ok (.invokevirtual 53, 3) := by decide +kernel
theorem dL_law_452 : decode cL_law 452 = .ok (.if_icmp .eq 667, 3) := by decide +kernel
theorem dL_law_455 : decode cL_law 455 = .ok (.iconst 0, 1) := by decide +kernel
theorem dL_law_456 : decode cL_law 456 = .ok (.ireturn, 1) := by decide +kernel
theorem dL_law_457 : decode cL_law 457 = .ok (.aload_n 1, 1) := by decide +kernel
theorem dL_law_458 : decode cL_law 458 = .ok (.aload_n 0, 1) := by decide +kernel
theorem dL_law_459 : decode cL_law 459 = .ok (.iload_n 3, 1) := by decide +kernel
theorem dL_law_460 : decode cL_law 460 = .ok (.iconst 1, 1) := by decide +kernel
theorem dL_law_461 : decode cL_law 461 = .ok (.iadd, 1) := by decide +kernel
theorem dL_law_462 : decode cL_law 462 = .ok (.iaload, 1) := by decide +kernel
theorem dL_law_463 : decode cL_law 463 = .ok (.aload_n 0, 1) := by decide +kernel
theorem dL_law_464 : decode cL_law 464 = .ok (.iload_n 3, 1) := by decide +kernel
theorem dL_law_465 : decode cL_law 465 = .ok (.iconst 2, 1) := by decide +kernel
theorem dL_law_466 : decode cL_law 466 = .ok (.iadd, 1) := by decide +kernel
