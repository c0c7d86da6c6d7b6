theorem dX8_buy_52 : decode cX8_buy 52 = .ok (.bipush (-6), 2) := by decide +kernel
theorem dX8_buy_54 : decode cX8_buy 54 = .ok (.invokevirtual 146, 3) := by decide +kernel
theorem dX8_buy_57 : decode cX8_buy 57 = .ok (.ireturn, 1) := by decide +kernel
theorem dX8_buy_58 : decode cX8_buy 58 = .ok (.aload_n 0, 1) := by decide +kernel
theorem dX8_buy_59 : decode cX8_buy 59 = .ok (.iload_n 1, 1) := by decide +kernel
theorem dX8_buy_60 : decode cX8_buy 60 = .ok (.iload_n 2, 1) := by decide +kernel
theorem dX8_buy_61 : decode cX8_buy 61 = .ok (.aload_n 0, 1) := by decide +kernel
theorem dX8_buy_62 : decode cX8_buy 62 = .ok (.getfield 130, 3) := by decide +kernel
theorem dX8_buy_65 : decode cX8_buy 65 = .ok (.iload_n 3, 1) := by decide +kernel
theorem dX8_buy_66 : decode cX8_buy 66 = .ok (.invokevirtual 153, 3) := by decide +kernel
theorem dX8_buy_69 : decode cX8_buy 69 = .ok (.aload_n 0, 1) := by decide +kernel
theorem dX8_buy_70 : decode cX8_buy 70 = .ok (.getfield 28, 3) := by decide +kernel
theorem dX8_buy_73 : decode cX8_buy 73 = .ok (.iload_n 2, 1) := by decide +kernel
theorem dX8_buy_74 : decode cX8_buy 74 = .ok (.dup2, 1) := by decide +kernel
theorem dX8_buy_75 : decode cX8_buy 75 = .ok (.laload, 1) := by decide +kernel
theorem dX8_buy_76 : decode cX8_buy 76 = .ok (.iload_n 3, 1) := by decide +kernel
theorem dX8_buy_77 : decode cX8_buy 77 = .ok (.i2l, 1) := by decide +kernel
theorem dX8_buy_78 : decode cX8_buy 78 = .ok (.ladd, 1) := by decide +kernel
theorem dX8_buy_79 : decode cX8_buy 79 = .ok (.lastore, 1) := by decide +kernel
theorem dX8_buy_80 : decode cX8_buy 80 = .ok (.aload_n 0, 1) := by decide +kernel
theorem dX8_buy_81 : decode cX8_buy 81 = .ok (.iload_n 1, 1) := by decide +kernel
theorem dX8_buy_82 : decode cX8_buy 82 = .ok (.iload_n 2, 1) := by decide +kernel
theorem dX8_buy_83 : decode cX8_buy 83 = .ok (.aload_n 0, 1) := by decide +kernel
theorem dX8_buy_84 : decode cX8_buy 84 = .ok (.getfield 130, 3) := by decide +kernel
theorem dX8_buy_87 : decode cX8_buy 87 = .ok (.invokevirtual 149, 3) := by decide +kernel
theorem dX8_buy_90 : decode cX8_buy 90 = .ok (.ireturn, 1) := by decide +kernel
theorem dX8_scrap_0 : decode cX8_scrap 0 = .ok (.aload_n 0, 1) := by decide +kernel
theorem dX8_scrap_1 : decode cX8_scrap 1 = .ok (.iload_n 1, 1) := by decide +kernel
theorem dX8_scrap_2 : decode cX8_scrap 2 = .ok (.invokevirtual 139, 3) := by decide +kernel
theorem dX8_scrap_5 : decode cX8_scrap 5 = .ok (.ifCond .eq 11, 3) := by decide +kernel
theorem dX8_scrap_8 : decode cX8_scrap 8 = .ok (.aload_n 0, 1) := by decide +kernel
theorem dX8_scrap_9 : decode cX8_scrap 9 = .ok (.iload_n 2, 1) := by decide +kernel
theorem dX8_scrap_10 : decode cX8_scrap 10 = .ok (.invokevirtual 143, 3) := by decide +kernel
theorem dX8_scrap_13 : decode cX8_scrap 13 = .ok (.ifCond .ne 9, 3) := by decide +kernel
theorem dX8_scrap_16 : decode cX8_scrap 16 = .ok (.aload_n 0, 1) := by decide +kernel
theorem dX8_scrap_17 : decode cX8_scrap 17 = .ok (.iconst (-1), 1) := by decide +kernel
theorem dX8_scrap_18 : decode cX8_scrap 18 = .ok (.invokevirtual 146, 3) := by decide +kernel
theorem dX8_scrap_21 : decode cX8_scrap 21 = .ok (.ireturn, 1) := by decide +kernel
theorem dX8_scrap_22 : decode cX8_scrap 22 = .ok (.iload_n 3, 1) := by decide +kernel
theorem dX8_scrap_23 : decode cX8_scrap 23 = .ok (.iconst 1, 1) := by decide +kernel
theorem dX8_scrap_24 : decode cX8_scrap 24 = .ok (.if_icmp .ge 10, 3) := by decide +kernel
theorem dX8_scrap_27 : decode cX8_scrap 27 = .ok (.aload_n 0, 1) := by decide +kernel
theorem dX8_scrap_28 : decode cX8_scrap 28 = .ok (.bipush (-4), 2) := by decide +kernel
theorem dX8_scrap_30 : decode cX8_scrap 30 = .ok (.invokevirtual 146, 3) := by decide +kernel
theorem dX8_scrap_33 : decode cX8_scrap 33 = .ok (.ireturn, 1) := by decide +kernel
theorem dX8_scrap_34 : decode cX8_scrap 34 = .ok (.iload_n 3, 1) := by decide +kernel
theorem dX8_scrap_35 : decode cX8_scrap 35 = .ok (.aload_n 0, 1) := by decide +kernel
theorem dX8_scrap_36 : decode cX8_scrap 36 = .ok (.iload_n 1, 1) := by decide +kernel
theorem dX8_scrap_37 : decode cX8_scrap 37 = .ok (.iload_n 2, 1) := by decide +kernel
theorem dX8_scrap_38 : decode cX8_scrap 38 = .ok (.aload_n 0, 1) := by decide +kernel
theorem dX8_scrap_39 : decode cX8_scrap 39 = .ok (.getfield 130, 3) := by decide +kernel
theorem dX8_scrap_42 : decode cX8_scrap 42 = .ok (.invokevirtual 149, 3) := by decide +kernel
theorem dX8_scrap_45 : decode cX8_scrap 45 = .ok (.if_icmp .le 10, 3) := by decide +kernel
theorem dX8_scrap_48 : decode cX8_scrap 48 = .ok (.aload_n 0, 1) := by decide +kernel
theorem dX8_scrap_49 : decode cX8_scrap 49 = .ok (.bipush (-5), 2) := by decide +kernel
theorem dX8_scrap_51 : decode cX8_scrap 51 = .ok (.invokevirtual 146, 3) := by decide +kernel
theorem dX8_scrap_54 : decode cX8_scrap 54 = .ok (.ireturn, 1) := by decide +kernel
theorem dX8_scrap_55 : decode cX8_scrap 55 = .ok (.aload_n 0, 1) := by decide +kernel
theorem dX8_scrap_56 : decode cX8_scrap 56 = .ok (.getfield 133, 3) := by decide +kernel
theorem dX8_scrap_59 : decode cX8_scrap 59 = .ok (.sipush 2000, 3) := by decide +kernel
theorem dX8_scrap_62 : decode cX8_scrap 62 = .ok (.if_icmp .ne 10, 3) := by decide +kernel
theorem dX8_scrap_65 : decode cX8_scrap 65 = .ok (.aload_n 0, 1) := by decide +kernel
theorem dX8_scrap_66 : decode cX8_scrap 66 = .ok (.bipush (-6), 2) := by decide +kernel
theorem dX8_scrap_68 : decode cX8_scrap 68 = .ok (.invokevirtual 146, 3) := by decide +kernel
theorem dX8_scrap_71 : decode cX8_scrap 71 = .ok (.ireturn, 1) := by decide +kernel
theorem dX8_scrap_72 : decode cX8_scrap 72 = .ok (.aload_n 0, 1) := by decide +kernel
theorem dX8_scrap_73 : decode cX8_scrap 73 = .ok (.iload_n 1, 1) := by decide +kernel
theorem dX8_scrap_74 : decode cX8_scrap 74 = .ok (.iload_n 2, 1) := by decide +kernel
theorem dX8_scrap_75 : decode cX8_scrap 75 = .ok (.aload_n 0, 1) := by decide +kernel
theorem dX8_scrap_76 : decode cX8_scrap 76 = .ok (.getfield 130, 3) := by decide +kernel
theorem dX8_scrap_79 : decode cX8_scrap 79 = .ok (.iload_n 3, 1) := by decide +kernel
theorem dX8_scrap_80 : decode cX8_scrap 80 = .ok (.ineg, 1) := by decide +kernel
theorem dX8_scrap_81 : decode cX8_scrap 81 = .ok (.invokevirtual 153, 3) := by decide +kernel
theorem dX8_scrap_84 : decode cX8_scrap 84 = .ok (.aload_n 0, 1) := by decide +kernel
theorem dX8_scrap_85 : decode cX8_scrap 85 = .ok (.getfield 28, 3) := by decide +kernel
theorem dX8_scrap_88 : decode cX8_scrap 88 = .ok (.iload_n 2, 1) := by decide +kernel
theorem dX8_scrap_89 : decode cX8_scrap 89 = .ok (.dup2, 1) := by decide +kernel
theorem dX8_scrap_90 : decode cX8_scrap 90 = .ok (.laload, 1) := by decide +kernel
theorem dX8_scrap_91 : decode cX8_scrap 91 = .ok (.iload_n 3, 1) := by decide +kernel
theorem dX8_scrap_92 : decode cX8_scrap 92 = .ok (.i2l, 1) := by decide +kernel
theorem dX8_scrap_93 : decode cX8_scrap 93 = .ok (.lsub, 1) := by decide +kernel
theorem dX8_scrap_94 : decode cX8_scrap 94 = .ok (.lastore, 1) := by decide +kernel
theorem dX8_scrap_95 : decode cX8_scrap 95 = .ok (.aload_n 0, 1) := by decide +kernel
theorem dX8_scrap_96 : decode cX8_scrap 96 = .ok (.iload_n 1, 1) := by decide +kernel
theorem dX8_scrap_97 : decode cX8_scrap 97 = .ok (.iload_n 2, 1) := by decide +kernel
theorem dX8_scrap_98 : decode cX8_scrap 98 = .ok (.aload_n 0, 1) := by decide +kernel
theorem dX8_scrap_99 : decode cX8_scrap 99 = .ok (.getfield 130, 3) := by decide +kernel
theorem dX8_scrap_102 : decode cX8_scrap 102 = .ok (.invokevirtual 149, 3) := by decide +kernel
theorem dX8_scrap_105 : decode cX8_scrap 105 = .ok (.ireturn, 1) := by decide +kernel
theorem dX8_found_0 : decode cX8_found 0 = .ok (.aload_n 0, 1) := by decide +kernel
theorem dX8_found_1 : decode cX8_found 1 = .ok (.iload_n 1, 1) := by decide +kernel
theorem dX8_found_2 : decode cX8_found 2 = .ok (.invokevirtual 139, 3) := by decide +kernel
theorem dX8_found_5 : decode cX8_found 5 = .ok (.ifCond .eq 11, 3) := by decide +kernel
theorem dX8_found_8 : decode cX8_found 8 = .ok (.aload_n 0, 1) := by decide +kernel
theorem dX8_found_9 : decode cX8_found 9 = .ok (.iload_n 2, 1) := by decide +kernel
theorem dX8_found_10 : decode cX8_found 10 = .ok (.invokevirtual 143, 3) := by decide +kernel
theorem dX8_found_13 : decode cX8_found 13 = .ok (.ifCond .ne 9, 3) := by decide +kernel
theorem dX8_found_16 : decode cX8_found 16 = .ok (.aload_n 0, 1) := by decide +kernel
theorem dX8_found_17 : decode cX8_found 17 = .ok (.iconst (-1), 1) := by decide +kernel
theorem dX8_found_18 : decode cX8_found 18 = .ok (.invokevirtual 146, 3) := by decide +kernel
theorem dX8_found_21 : decode cX8_found 21 = .ok (.ireturn, 1) := by decide +kernel
theorem dX8_found_22 : decode cX8_found 22 = .ok (.iload_n 3, 1) := by decide +kernel
theorem dX8_found_23 : decode cX8_found 23 = .ok (.ifCond .ge 10, 3) := by decide +kernel
theorem dX8_found_26 : decode cX8_found 26 = .ok (.aload_n 0, 1) := by decide +kernel
theorem dX8_found_27 : decode cX8_found 27 = .ok (.bipush (-4), 2) := by decide +kernel
theorem dX8_found_29 : decode cX8_found 29 = .ok (.invokevirtual 146, 3) := by decide +kernel
theorem dX8_found_32 : decode cX8_found 32 = .ok (.ireturn, 1) := by decide +kernel
theorem dX8_found_33 : decode cX8_found 33 = .ok (.iload_n 3, 1) := by decide +kernel
theorem dX8_found_34 : decode cX8_found 34 = .ok (.ldc 157, 2) := by decide +kernel
theorem dX8_found_36 : decode cX8_found 36 = .ok (.if_icmp .gt 13, 3) := by decide +kernel
theorem dX8_found_39 : decode cX8_found 39 = .ok (.aload_n 0, 1) := by decide +kernel
theorem dX8_found_40 : decode cX8_found 40 = .ok (.getfield 133, 3) := by decide +kernel
theorem dX8_found_43 : decode cX8_found 43 = .ok (.sipush 2000, 3) := by decide +kernel
theorem dX8_found_46 : decode cX8_found 46 = .ok (.if_icmp .ne 10, 3) := by decide +kernel
theorem dX8_found_49 : decode cX8_found 49 = .ok (.aload_n 0, 1) := by decide +kernel
theorem dX8_found_50 : decode cX8_found 50 = .ok (.bipush (-6), 2) := by decide +kernel
theorem dX8_found_52 : decode cX8_found 52 = .ok (.invokevirtual 146, 3) := by decide +kernel
theorem dX8_found_55 : decode cX8_found 55 = .ok (.ireturn, 1) := by decide +kernel
theorem dX8_found_56 : decode cX8_found 56 = .ok (.aload_n 0, 1) := by decide +kernel
theorem dX8_found_57 : decode cX8_found 57 = .ok (.iload_n 1, 1) := by decide +kernel
theorem dX8_found_58 : decode cX8_found 58 = .ok (.iload_n 2, 1) := by decide +kernel
theorem dX8_found_59 : decode cX8_found 59 = .ok (.aload_n 0, 1) := by decide +kernel
theorem dX8_found_60 : decode cX8_found 60 = .ok (.getfield 130, 3) := by decide +kernel
theorem dX8_found_63 : decode cX8_found 63 = .ok (.invokevirtual 149, 3) := by decide +kernel
theorem dX8_found_66 : decode cX8_found 66 = .ok (.istore 4, 2) := by decide +kernel
theorem dX8_found_68 : decode cX8_found 68 = .ok (.iload 4, 2) := by decide +kernel
theorem dX8_found_70 : decode cX8_found 70 = .ok (.iload_n 3, 1) := by decide +kernel
theorem dX8_found_71 : decode cX8_found 71 = .ok (.if_icmp .eq 35, 3) := by decide +kernel
theorem dX8_found_74 : decode cX8_found 74 = .ok (.aload_n 0, 1) := by decide +kernel
theorem dX8_found_75 : decode cX8_found 75 = .ok (.iload_n 1, 1) := by decide +kernel
theorem dX8_found_76 : decode cX8_found 76 = .ok (.iload_n 2, 1) := by decide +kernel
theorem dX8_found_77 : decode cX8_found 77 = .ok (.aload_n 0, 1) := by decide +kernel
theorem dX8_found_78 : decode cX8_found 78 = .ok (.getfield 130, 3) := by decide +kernel
theorem dX8_found_81 : decode cX8_found 81 = .ok (.iload_n 3, 1) := by decide +kernel
theorem dX8_found_82 : decode cX8_found 82 = .ok (.iload 4, 2) := by decide +kernel
theorem dX8_found_84 : decode cX8_found 84 = .ok (.isub, 1) := by decide +kernel
theorem dX8_found_85 : decode cX8_found 85 = .ok (.invokevirtual 153, 3) := by decide +kernel
theorem dX8_found_88 : decode cX8_found 88 = .ok (.aload_n 0, 1) := by decide +kernel
theorem dX8_found_89 : decode cX8_found 89 = .ok (.getfield 72, 3) := by decide +kernel
theorem dX8_found_92 : decode cX8_found 92 = .ok (.bipush 6, 2) := by decide +kernel
theorem dX8_found_94 : decode cX8_found 94 = .ok (.iload_n 1, 1) := by decide +kernel
theorem dX8_found_95 : decode cX8_found 95 = .ok (.imul, 1) := by decide +kernel
theorem dX8_found_96 : decode cX8_found 96 = .ok (.iload_n 2, 1) := by decide +kernel
theorem dX8_found_97 : decode cX8_found 97 = .ok (.iadd, 1) := by decide +kernel
theorem dX8_found_98 : decode cX8_found 98 = .ok (.dup2, 1) := by decide +kernel
theorem dX8_found_99 : decode cX8_found 99 = .ok (.iaload, 1) := by decide +kernel
theorem dX8_found_100 : decode cX8_found 100 = .ok (.iload 4, 2) := by decide +kernel
theorem dX8_found_102 : decode cX8_found 102 = .ok (.iload_n 3, 1) := by decide +kernel
theorem dX8_found_103 : decode cX8_found 103 = .ok (.isub, 1) := by decide +kernel
theorem dX8_found_104 : decode cX8_found 104 = .ok (.iadd, 1) := by decide +kernel
theorem dX8_found_105 : decode cX8_found 105 = .ok (.iastore, 1) := by decide +kernel
theorem dX8_found_106 : decode cX8_found 106 = .ok (.iload 4, 2) := by decide +kernel
theorem dX8_found_108 : decode cX8_found 108 = .ok (.ireturn, 1) := by decide +kernel
theorem dX8_lost_0 : decode cX8_lost 0 = .ok (.aload_n 0, 1) := by decide +kernel
theorem dX8_lost_1 : decode cX8_lost 1 = .ok (.iload_n 1, 1) := by decide +kernel
theorem dX8_lost_2 : decode cX8_lost 2 = .ok (.invokevirtual 139, 3) := by decide +kernel
theorem dX8_lost_5 : decode cX8_lost 5 = .ok (.ifCond .eq 25, 3) := by decide +kernel
theorem dX8_lost_8 : decode cX8_lost 8 = .ok (.aload_n 0, 1) := by decide +kernel
theorem dX8_lost_9 : decode cX8_lost 9 = .ok (.iload_n 2, 1) := by decide +kernel
theorem dX8_lost_10 : decode cX8_lost 10 = .ok (.invokevirtual 143, 3) := by decide +kernel
theorem dX8_lost_13 : decode cX8_lost 13 = .ok (.ifCond .eq 17, 3) := by decide +kernel
theorem dX8_lost_16 : decode cX8_lost 16 = .ok (.aload_n 0, 1) := by decide +kernel
theorem dX8_lost_17 : decode cX8_lost 17 = .ok (.getfield 72, 3) := by decide +kernel
theorem dX8_lost_20 : decode cX8_lost 20 = .ok (.bipush 6, 2) := by decide +kernel
theorem dX8_lost_22 : decode cX8_lost 22 = .ok (.iload_n 1, 1) := by decide +kernel
theorem dX8_lost_23 : decode cX8_lost 23 = .ok (.imul, 1) := by decide +kernel
theorem dX8_lost_24 : decode cX8_lost 24 = .ok (.iload_n 2, 1) := by decide +kernel
theorem dX8_lost_25 : decode cX8_lost 25 = .ok (.iadd, 1) := by decide +kernel
theorem dX8_lost_26 : decode cX8_lost 26 = .ok (.iaload, 1) := by decide +kernel
theorem dX8_lost_27 : decode cX8_lost 27 = .ok (.goto 8, 3) := by decide +kernel
theorem dX8_lost_30 : decode cX8_lost 30 = .ok (.aload_n 0, 1) := by decide +kernel
theorem dX8_lost_31 : decode cX8_lost 31 = .ok (.iconst (-1), 1) := by decide +kernel
theorem dX8_lost_32 : decode cX8_lost 32 = .ok (.invokevirtual 146, 3) := by decide +kernel
theorem dX8_lost_35 : decode cX8_lost 35 = .ok (.ireturn, 1) := by decide +kernel
theorem dX8_tell_0 : decode cX8_tell 0 = .ok (.aload_n 0, 1) := by decide +kernel
theorem dX8_tell_1 : decode cX8_tell 1 = .ok (.iload_n 2, 1) := by decide +kernel
theorem dX8_tell_2 : decode cX8_tell 2 = .ok (.invokevirtual 139, 3) := by decide +kernel
theorem dX8_tell_5 : decode cX8_tell 5 = .ok (.ifCond .eq 25, 3) := by decide +kernel
theorem dX8_tell_8 : decode cX8_tell 8 = .ok (.aload_n 0, 1) := by decide +kernel
theorem dX8_tell_9 : decode cX8_tell 9 = .ok (.iload_n 3, 1) := by decide +kernel
theorem dX8_tell_10 : decode cX8_tell 10 = .ok (.invokevirtual 139, 3) := by decide +kernel
theorem dX8_tell_13 : decode cX8_tell 13 = .ok (.ifCond .eq 17, 3) := by decide +kernel
theorem dX8_tell_16 : decode cX8_tell 16 = .ok (.iload_n 2, 1) := by decide +kernel
theorem dX8_tell_17 : decode cX8_tell 17 = .ok (.iload_n 3, 1) := by decide +kernel
theorem dX8_tell_18 : decode cX8_tell 18 = .ok (.if_icmp .eq 12, 3) := by decide +kernel
theorem dX8_tell_21 : decode cX8_tell 21 = .ok (.aload_n 0, 1) := by decide +kernel
theorem dX8_tell_22 : decode cX8_tell 22 = .ok (.iload 4, 2) := by decide +kernel
theorem dX8_tell_24 : decode cX8_tell 24 = .ok (.invokevirtual 143, 3) := by decide +kernel
theorem dX8_tell_27 : decode cX8_tell 27 = .ok (.ifCond .ne 9, 3) := by decide +kernel
theorem dX8_tell_30 : decode cX8_tell 30 = .ok (.aload_n 0, 1) := by decide +kernel
theorem dX8_tell_31 : decode cX8_tell 31 = .ok (.iconst (-1), 1) := by decide +kernel
theorem dX8_tell_32 : decode cX8_tell 32 = .ok (.invokevirtual 126, 3) := by decide +kernel
theorem dX8_tell_35 : decode cX8_tell 35 = .ok (.ireturn, 1) := by decide +kernel
theorem dX8_tell_36 : decode cX8_tell 36 = .ok (.iload 5, 2) := by decide +kernel
theorem dX8_tell_38 : decode cX8_tell 38 = .ok (.iconst 1, 1) := by decide +kernel
theorem dX8_tell_39 : decode cX8_tell 39 = .ok (.if_icmp .ge 10, 3) := by decide +kernel
theorem dX8_tell_42 : decode cX8_tell 42 = .ok (.aload_n 0, 1) := by decide +kernel
theorem dX8_tell_43 : decode cX8_tell 43 = .ok (.bipush (-4), 2) := by decide +kernel
theorem dX8_tell_45 : decode cX8_tell 45 = .ok (.invokevirtual 126, 3) := by decide +kernel
theorem dX8_tell_48 : decode cX8_tell 48 = .ok (.ireturn, 1) := by decide +kernel
theorem dX8_tell_49 : decode cX8_tell 49 = .ok (.iload 5, 2) := by decide +kernel
theorem dX8_tell_51 : decode cX8_tell 51 = .ok (.sipush 1000, 3) := by decide +kernel
theorem dX8_tell_54 : decode cX8_tell 54 = .ok (.if_icmp .gt 13, 3) := by decide +kernel
theorem dX8_tell_57 : decode cX8_tell 57 = .ok (.aload_n 0, 1) := by decide +kernel
theorem dX8_tell_58 : decode cX8_tell 58 = .ok (.getfield 158, 3) := by decide +kernel
theorem dX8_tell_61 : decode cX8_tell 61 = .ok (.sipush 400, 3) := by decide +kernel
theorem dX8_tell_64 : decode cX8_tell 64 = .ok (.if_icmp .ne 10, 3) := by decide +kernel
theorem dX8_tell_67 : decode cX8_tell 67 = .ok (.aload_n 0, 1) := by decide +kernel
theorem dX8_tell_68 : decode cX8_tell 68 = .ok (.bipush (-6), 2) := by decide +kernel
theorem dX8_tell_70 : decode cX8_tell 70 = .ok (.invokevirtual 126, 3) := by decide +kernel
theorem dX8_tell_73 : decode cX8_tell 73 = .ok (.ireturn, 1) := by decide +kernel
theorem dX8_tell_74 : decode cX8_tell 74 = .ok (.aload_n 0, 1) := by decide +kernel
theorem dX8_tell_75 : decode cX8_tell 75 = .ok (.getfield 158, 3) := by decide +kernel
theorem dX8_tell_78 : decode cX8_tell 78 = .ok (.istore 6, 2) := by decide +kernel
theorem dX8_tell_80 : decode cX8_tell 80 = .ok (.aload_n 0, 1) := by decide +kernel
theorem dX8_tell_81 : decode cX8_tell 81 = .ok (.dup, 1) := by decide +kernel
theorem dX8_tell_82 : decode cX8_tell 82 = .ok (.getfield 158, 3) := by decide +kernel
theorem dX8_tell_85 : decode cX8_tell 85 = .ok (.iconst 1, 1) := by decide +kernel
theorem dX8_tell_86 : decode cX8_tell 86 = .ok (.iadd, 1) := by decide +kernel
theorem dX8_tell_87 : decode cX8_tell 87 = .ok (.putfield 158, 3) := by decide +kernel
theorem dX8_tell_90 : decode cX8_tell 90 = .ok (.aload_n 0, 1) := by decide +kernel
theorem dX8_tell_91 : decode cX8_tell 91 = .ok (.getfield 35, 3) := by decide +kernel
theorem dX8_tell_94 : decode cX8_tell 94 = .ok (.iload 6, 2) := by decide +kernel
theorem dX8_tell_96 : decode cX8_tell 96 = .ok (.iload_n 1, 1) := by decide +kernel
theorem dX8_tell_97 : decode cX8_tell 97 = .ok (.bastore, 1) := by decide +kernel
theorem dX8_tell_98 : decode cX8_tell 98 = .ok (.aload_n 0, 1) := by decide +kernel
theorem dX8_tell_99 : decode cX8_tell 99 = .ok (.getfield 39, 3) := by decide +kernel
theorem dX8_tell_102 : decode cX8_tell 102 = .ok (.iload 6, 2) := by decide +kernel
theorem dX8_tell_104 : decode cX8_tell 104 = .ok (.iload_n 2, 1) := by decide +kernel
theorem dX8_tell_105 : decode cX8_tell 105 = .ok (.iastore, 1) := by decide +kernel
theorem dX8_tell_106 : decode cX8_tell 106 = .ok (.aload_n 0, 1) := by decide +kernel
theorem dX8_tell_107 : decode cX8_tell 107 = .ok (.getfield 42, 3) := by decide +kernel
theorem dX8_tell_110 : decode cX8_tell 110 = .ok (.iload 6, 2) := by decide +kernel
theorem dX8_tell_112 : decode cX8_tell 112 = .ok (.iload_n 3, 1) := by decide +kernel
theorem dX8_tell_113 : decode cX8_tell 113 = .ok (.iastore, 1) := by decide +kernel
theorem dX8_tell_114 : decode cX8_tell 114 = .ok (.aload_n 0, 1) := by decide +kernel
theorem dX8_tell_115 : decode cX8_tell 115 = .ok (.getfield 45, 3) := by decide +kernel
theorem dX8_tell_118 : decode cX8_tell 118 = .ok (.iload 6, 2) := by decide +kernel
theorem dX8_tell_120 : decode cX8_tell 120 = .ok (.iload 4, 2) := by decide +kernel
theorem dX8_tell_122 : decode cX8_tell 122 = .ok (.iastore, 1) := by decide +kernel
theorem dX8_tell_123 : decode cX8_tell 123 = .ok (.aload_n 0, 1) := by decide +kernel
theorem dX8_tell_124 : decode cX8_tell 124 = .ok (.getfield 48, 3) := by decide +kernel
theorem dX8_tell_127 : decode cX8_tell 127 = .ok (.iload 6, 2) := by decide +kernel
theorem dX8_tell_129 : decode cX8_tell 129 = .ok (.iload 5, 2) := by decide +kernel
theorem dX8_tell_131 : decode cX8_tell 131 = .ok (.iastore, 1) := by decide +kernel
theorem dX8_tell_132 : decode cX8_tell 132 = .ok (.aload_n 0, 1) := by decide +kernel
theorem dX8_tell_133 : decode cX8_tell 133 = .ok (.getfield 51, 3) := by decide +kernel
theorem dX8_tell_136 : decode cX8_tell 136 = .ok (.iload 6, 2) := by decide +kernel
theorem dX8_tell_138 : decode cX8_tell 138 = .ok (.aload_n 0, 1) := by decide +kernel
theorem dX8_tell_139 : decode cX8_tell 139 = .ok (.getfield 130, 3) := by decide +kernel
theorem dX8_tell_142 : decode cX8_tell 142 = .ok (.iastore, 1) := by decide +kernel
theorem dX8_tell_143 : decode cX8_tell 143 = .ok (.aload_n 0, 1) := by decide +kernel
theorem dX8_tell_144 : decode cX8_tell 144 = .ok (.getfield 57, 3) := by decide +kernel
theorem dX8_tell_147 : decode cX8_tell 147 = .ok (.iload 6, 2) := by decide +kernel
theorem dX8_tell_149 : decode cX8_tell 149 = .ok (.bipush (-9), 2) := by decide +kernel
theorem dX8_tell_151 : decode cX8_tell 151 = .ok (.iastore, 1) := by decide +kernel
theorem dX8_tell_152 : decode cX8_tell 152 = .ok (.iload 6, 2) := by decide +kernel
theorem dX8_tell_154 : decode cX8_tell 154 = .ok (.ireturn, 1) := by decide +kernel
theorem dX8_drop_0 : decode cX8_drop 0 = .ok (.iload_n 1, 1) := by decide +kernel
theorem dX8_drop_1 : decode cX8_drop 1 = .ok (.iconst 0, 1) := by decide +kernel
theorem dX8_drop_2 : decode cX8_drop 2 = .ok (.aload_n 0, 1) := by decide +kernel
theorem dX8_drop_3 : decode cX8_drop 3 = .ok (.getfield 158, 3) := by decide +kernel
theorem dX8_drop_6 : decode cX8_drop 6 = .ok (.iconst 1, 1) := by decide +kernel
theorem dX8_drop_7 : decode cX8_drop 7 = .ok (.isub, 1) := by decide +kernel
theorem dX8_drop_8 : decode cX8_drop 8 = .ok (.invokestatic 119, 3) := by decide +kernel
theorem dX8_drop_11 : decode cX8_drop 11 = .ok (.ifCond .ne 9, 3) := by decide +kernel
theorem dX8_drop_14 : decode cX8_drop 14 = .ok (.aload_n 0, 1) := by decide +kernel
theorem dX8_drop_15 : decode cX8_drop 15 = .ok (.iconst (-1), 1) := by decide +kernel
theorem dX8_drop_16 : decode cX8_drop 16 = .ok (.invokevirtual 126, 3) := by decide +kernel
theorem dX8_drop_19 : decode cX8_drop 19 = .ok (.ireturn, 1) := by decide +kernel
theorem dX8_drop_20 : decode cX8_drop 20 = .ok (.aload_n 0, 1) := by decide +kernel
theorem dX8_drop_21 : decode cX8_drop 21 = .ok (.getfield 54, 3) := by decide +kernel
theorem dX8_drop_24 : decode cX8_drop 24 = .ok (.iload_n 1, 1) := by decide +kernel
theorem dX8_drop_25 : decode cX8_drop 25 = .ok (.iaload, 1) := by decide +kernel
theorem dX8_drop_26 : decode cX8_drop 26 = .ok (.ifCond .eq 10, 3) := by decide +kernel
theorem dX8_drop_29 : decode cX8_drop 29 = .ok (.aload_n 0, 1) := by decide +kernel
theorem dX8_drop_30 : decode cX8_drop 30 = .ok (.bipush (-3), 2) := by decide +kernel
theorem dX8_drop_32 : decode cX8_drop 32 = .ok (.invokevirtual 126, 3) := by decide +kernel
theorem dX8_drop_35 : decode cX8_drop 35 = .ok (.ireturn, 1) := by decide +kernel
theorem dX8_drop_36 : decode cX8_drop 36 = .ok (.aload_n 0, 1) := by decide +kernel
theorem dX8_drop_37 : decode cX8_drop 37 = .ok (.getfield 54, 3) := by decide +kernel
theorem dX8_drop_40 : decode cX8_drop 40 = .ok (.iload_n 1, 1) := by decide +kernel
theorem dX8_drop_41 : decode cX8_drop 41 = .ok (.iconst 2, 1) := by decide +kernel
theorem dX8_drop_42 : decode cX8_drop 42 = .ok (.iastore, 1) := by decide +kernel
theorem dX8_drop_43 : decode cX8_drop 43 = .ok (.iconst 1, 1) := by decide +kernel
theorem dX8_drop_44 : decode cX8_drop 44 = .ok (.ireturn, 1) := by decide +kernel
theorem dX8_rule_0 : decode cX8_rule 0 = .ok (.iload_n 1, 1) := by decide +kernel
theorem dX8_rule_1 : decode cX8_rule 1 = .ok (.iconst 0, 1) := by decide +kernel
theorem dX8_rule_2 : decode cX8_rule 2 = .ok (.iconst 3, 1) := by decide +kernel
theorem dX8_rule_3 : decode cX8_rule 3 = .ok (.invokestatic 119, 3) := by decide +kernel
theorem dX8_rule_6 : decode cX8_rule 6 = .ok (.ifCond .ne 10, 3) := by decide +kernel
theorem dX8_rule_9 : decode cX8_rule 9 = .ok (.aload_n 0, 1) := by decide +kernel
theorem dX8_rule_10 : decode cX8_rule 10 = .ok (.bipush (-2), 2) := by decide +kernel
theorem dX8_rule_12 : decode cX8_rule 12 = .ok (.invokevirtual 126, 3) := by decide +kernel
theorem dX8_rule_15 : decode cX8_rule 15 = .ok (.ireturn, 1) := by decide +kernel
theorem dX8_rule_16 : decode cX8_rule 16 = .ok (.aload_n 0, 1) := by decide +kernel
theorem dX8_rule_17 : decode cX8_rule 17 = .ok (.getfield 161, 3) := by decide +kernel
theorem dX8_rule_20 : decode cX8_rule 20 = .ok (.istore_n 2, 1) := by decide +kernel
theorem dX8_rule_21 : decode cX8_rule 21 = .ok (.aload_n 0, 1) := by decide +kernel
theorem dX8_rule_22 : decode cX8_rule 22 = .ok (.iload_n 1, 1) := by decide +kernel
theorem dX8_rule_23 : decode cX8_rule 23 = .ok (.putfield 161, 3) := by decide +kernel
theorem dX8_rule_26 : decode cX8_rule 26 = .ok (.iload_n 2, 1) := by decide +kernel
theorem dX8_rule_27 : decode cX8_rule 27 = .ok (.ireturn, 1) := by decide +kernel
theorem dX8_gather_0 : decode cX8_gather 0 = .ok (.iconst 0, 1) := by decide +kernel
theorem dX8_gather_1 : decode cX8_gather 1 = .ok (.istore 6, 2) := by decide +kernel
theorem dX8_gather_3 : decode cX8_gather 3 = .ok (.iconst 0, 1) := by decide +kernel
theorem dX8_gather_4 : decode cX8_gather 4 = .ok (.istore 7, 2) := by decide +kernel
theorem dX8_gather_6 : decode cX8_gather 6 = .ok (.iload 7, 2) := by decide +kernel
theorem dX8_gather_8 : decode cX8_gather 8 = .ok (.aload_n 0, 1) := by decide +kernel
theorem dX8_gather_9 : decode cX8_gather 9 = .ok (.getfield 158, 3) := by decide +kernel
theorem dX8_gather_12 : decode cX8_gather 12 = .ok (.if_icmp .ge 81, 3) := by decide +kernel
theorem dX8_gather_15 : decode cX8_gather 15 = .ok (.iload 6, 2) := by decide +kernel
theorem dX8_gather_17 : decode cX8_gather 17 = .ok (.bipush 8, 2) := by decide +kernel
theorem dX8_gather_19 : decode cX8_gather 19 = .ok (.if_icmp .ge 74, 3) := by decide +kernel
theorem dX8_gather_22 : decode cX8_gather 22 = .ok (.aload_n 0, 1) := by decide +kernel
theorem dX8_gather_23 : decode cX8_gather 23 = .ok (.getfield 35, 3) := by decide +kernel
theorem dX8_gather_26 : decode cX8_gather 26 = .ok (.iload 7, 2) := by decide +kernel
theorem dX8_gather_28 : decode cX8_gather 28 = .ok (.baload, 1) := by decide +kernel
theorem dX8_gather_29 : decode cX8_gather 29 = .ok (.iload_n 1, 1) := by decide +kernel
theorem dX8_gather_30 : decode cX8_gather 30 = .ok (.if_icmp .ne 57, 3) := by decide +kernel
theorem dX8_gather_33 : decode cX8_gather 33 = .ok (.aload_n 0, 1) := by decide +kernel
theorem dX8_gather_34 : decode cX8_gather 34 = .ok (.getfield 54, 3) := by decide +kernel
theorem dX8_gather_37 : decode cX8_gather 37 = .ok (.iload 7, 2) := by decide +kernel
theorem dX8_gather_39 : decode cX8_gather 39 = .ok (.iaload, 1) := by decide +kernel
theorem dX8_gather_40 : decode cX8_gather 40 = .ok (.ifCond .ne 47, 3) := by decide +kernel
theorem dX8_gather_43 : decode cX8_gather 43 = .ok (.aload_n 0, 1) := by decide +kernel
theorem dX8_gather_44 : decode cX8_gather 44 = .ok (.getfield 39, 3) := by decide +kernel
theorem dX8_gather_47 : decode cX8_gather 47 = .ok (.iload 7, 2) := by decide +kernel
theorem dX8_gather_49 : decode cX8_gather 49 = .ok (.iaload, 1) := by decide +kernel
theorem dX8_gather_50 : decode cX8_gather 50 = .ok (.iload_n 2, 1) := by decide +kernel
theorem dX8_gather_51 : decode cX8_gather 51 = .ok (.if_icmp .ne 36, 3) := by decide +kernel
theorem dX8_gather_54 : decode cX8_gather 54 = .ok (.aload_n 0, 1) := by decide +kernel
theorem dX8_gather_55 : decode cX8_gather 55 = .ok (.getfield 42, 3) := by decide +kernel
theorem dX8_gather_58 : decode cX8_gather 58 = .ok (.iload 7, 2) := by decide +kernel
theorem dX8_gather_60 : decode cX8_gather 60 = .ok (.iaload, 1) := by decide +kernel
theorem dX8_gather_61 : decode cX8_gather 61 = .ok (.iload_n 3, 1) := by decide +kernel
theorem dX8_gather_62 : decode cX8_gather 62 = .ok (.if_icmp .ne 25, 3) := by decide +kernel
theorem dX8_gather_65 : decode cX8_gather 65 = .ok (.aload_n 0, 1) := by decide +kernel
theorem dX8_gather_66 : decode cX8_gather 66 = .ok (.getfield 45, 3) := by decide +kernel
theorem dX8_gather_69 : decode cX8_gather 69 = .ok (.iload 7, 2) := by decide +kernel
theorem dX8_gather_71 : decode cX8_gather 71 = .ok (.iaload, 1) := by decide +kernel
theorem dX8_gather_72 : decode cX8_gather 72 = .ok (.iload 4, 2) := by decide +kernel
theorem dX8_gather_74 : decode cX8_gather 74 = .ok (.if_icmp .ne 13, 3) := by decide +kernel
theorem dX8_gather_77 : decode cX8_gather 77 = .ok (.aload 5, 2) := by decide +kernel
theorem dX8_gather_79 : decode cX8_gather 79 = .ok (.iload 6, 2) := by decide +kernel
theorem dX8_gather_81 : decode cX8_gather 81 = .ok (.iload 7, 2) := by decide +kernel
theorem dX8_gather_83 : decode cX8_gather 83 = .ok (.iastore, 1) := by decide +kernel
theorem dX8_gather_84 : decode cX8_gather 84 = .ok (.iinc 6 1, 3) := by decide +kernel
theorem dX8_gather_87 : decode cX8_gather 87 = .ok (.iinc 7 1, 3) := by decide +kernel
theorem dX8_gather_90 : decode cX8_gather 90 = .ok (.goto (-84), 3) := by decide +kernel
theorem dX8_gather_93 : decode cX8_gather 93 = .ok (.iload 6, 2) := by decide +kernel
theorem dX8_gather_95 : decode cX8_gather 95 = .ok (.ireturn, 1) := by decide +kernel
theorem dX8_worthOf_0 : decode cX8_worthOf 0 = .ok (.aload_n 0, 1) := by decide +kernel
theorem dX8_worthOf_1 : decode cX8_worthOf 1 = .ok (.getfield 51, 3) := by decide +kernel
theorem dX8_worthOf_4 : decode cX8_worthOf 4 = .ok (.aload_n 0, 1) := by decide +kernel
theorem dX8_worthOf_5 : decode cX8_worthOf 5 = .ok (.getfield 90, 3) := by decide +kernel
theorem dX8_worthOf_8 : decode cX8_worthOf 8 = .ok (.iload_n 1, 1) := by decide +kernel
theorem dX8_worthOf_9 : decode cX8_worthOf 9 = .ok (.iaload, 1) := by decide +kernel
theorem dX8_worthOf_10 : decode cX8_worthOf 10 = .ok (.iaload, 1) := by decide +kernel
theorem dX8_worthOf_11 : decode cX8_worthOf 11 = .ok (.aload_n 0, 1) := by decide +kernel
theorem dX8_worthOf_12 : decode cX8_worthOf 12 = .ok (.getfield 51, 3) := by decide +kernel
theorem dX8_worthOf_15 : decode cX8_worthOf 15 = .ok (.aload_n 0, 1) := by decide +kernel
theorem dX8_worthOf_16 : decode cX8_worthOf 16 = .ok (.getfield 93, 3) := by decide +kernel
theorem dX8_worthOf_19 : decode cX8_worthOf 19 = .ok (.iload_n 2, 1) := by decide +kernel
theorem dX8_worthOf_20 : decode cX8_worthOf 20 = .ok (.iaload, 1) := by decide +kernel
theorem dX8_worthOf_21 : decode cX8_worthOf 21 = .ok (.iaload, 1) := by decide +kernel
theorem dX8_worthOf_22 : decode cX8_worthOf 22 = .ok (.isub, 1) := by decide +kernel
theorem dX8_worthOf_23 : decode cX8_worthOf 23 = .ok (.istore_n 3, 1) := by decide +kernel
theorem dX8_worthOf_24 : decode cX8_worthOf 24 = .ok (.iload_n 3, 1) := by decide +kernel
theorem dX8_worthOf_25 : decode cX8_worthOf 25 = .ok (.ifCond .ge 8, 3) := by decide +kernel
theorem dX8_worthOf_28 : decode cX8_worthOf 28 = .ok (.iload_n 3, 1) := by decide +kernel
theorem dX8_worthOf_29 : decode cX8_worthOf 29 = .ok (.ineg, 1) := by decide +kernel
theorem dX8_worthOf_30 : decode cX8_worthOf 30 = .ok (.goto 4, 3) := by decide +kernel
theorem dX8_worthOf_33 : decode cX8_worthOf 33 = .ok (.iload_n 3, 1) := by decide +kernel
theorem dX8_worthOf_34 : decode cX8_worthOf 34 = .ok (.istore_n 3, 1) := by decide +kernel
theorem dX8_worthOf_35 : decode cX8_worthOf 35 = .ok (.iload_n 3, 1) := by decide +kernel
theorem dX8_worthOf_36 : decode cX8_worthOf 36 = .ok (.iconst 3, 1) := by decide +kernel
theorem dX8_worthOf_37 : decode cX8_worthOf 37 = .ok (.if_icmp .le 7, 3) := by decide +kernel
theorem dX8_worthOf_40 : decode cX8_worthOf 40 = .ok (.iconst (-1), 1) := by decide +kernel
theorem dX8_worthOf_41 : decode cX8_worthOf 41 = .ok (.goto 8, 3) := by decide +kernel
theorem dX8_worthOf_44 : decode cX8_worthOf 44 = .ok (.sipush 1000, 3) := by decide +kernel
theorem dX8_worthOf_47 : decode cX8_worthOf 47 = .ok (.iload_n 3, 1) := by decide +kernel
theorem dX8_worthOf_48 : decode cX8_worthOf 48 = .ok (.isub, 1) := by decide +kernel
theorem dX8_worthOf_49 : decode cX8_worthOf 49 = .ok (.ireturn, 1) := by decide +kernel
theorem dX8_pairThose_0 : decode cX8_pairThose 0 = .ok (.aload_n 0, 1) := by decide +kernel
theorem dX8_pairThose_1 : decode cX8_pairThose 1 = .ok (.iconst 1, 1) := by decide +kernel
theorem dX8_pairThose_2 : decode cX8_pairThose 2 = .ok (.iload_n 1, 1) := by decide +kernel
theorem dX8_pairThose_3 : decode cX8_pairThose 3 = .ok (.iload_n 2, 1) := by decide +kernel
theorem dX8_pairThose_4 : decode cX8_pairThose 4 = .ok (.iload_n 3, 1) := by decide +kernel
theorem dX8_pairThose_5 : decode cX8_pairThose 5 = .ok (.aload_n 0, 1) := by decide +kernel
theorem dX8_pairThose_6 : decode cX8_pairThose 6 = .ok (.getfield 90, 3) := by decide +kernel
theorem dX8_pairThose_9 : decode cX8_pairThose 9 = .ok (.invokevirtual 164, 3) := by decide +kernel
theorem dX8_pairThose_12 : decode cX8_pairThose 12 = .ok (.istore 5, 2) := by decide +kernel
theorem dX8_pairThose_14 : decode cX8_pairThose 14 = .ok (.aload_n 0, 1) := by decide +kernel
theorem dX8_pairThose_15 : decode cX8_pairThose 15 = .ok (.iconst 0, 1) := by decide +kernel
theorem dX8_pairThose_16 : decode cX8_pairThose 16 = .ok (.iload_n 1, 1) := by decide +kernel
theorem dX8_pairThose_17 : decode cX8_pairThose 17 = .ok (.iload_n 2, 1) := by decide +kernel
theorem dX8_pairThose_18 : decode cX8_pairThose 18 = .ok (.iload_n 3, 1) := by decide +kernel
theorem dX8_pairThose_19 : decode cX8_pairThose 19 = .ok (.aload_n 0, 1) := by decide +kernel
theorem dX8_pairThose_20 : decode cX8_pairThose 20 = .ok (.getfield 93, 3) := by decide +kernel
theorem dX8_pairThose_23 : decode cX8_pairThose 23 = .ok (.invokevirtual 164, 3) := by decide +kernel
theorem dX8_pairThose_26 : decode cX8_pairThose 26 = .ok (.istore 6, 2) := by decide +kernel
theorem dX8_pairThose_28 : decode cX8_pairThose 28 = .ok (.iconst 0, 1) := by decide +kernel
theorem dX8_pairThose_29 : decode cX8_pairThose 29 = .ok (.istore 7, 2) := by decide +kernel
theorem dX8_pairThose_31 : decode cX8_pairThose 31 = .ok (.iload 7, 2) := by decide +kernel
theorem dX8_pairThose_33 : decode cX8_pairThose 33 = .ok (.sipush 256, 3) := by decide +kernel
theorem dX8_pairThose_36 : decode cX8_pairThose 36 = .ok (.if_icmp .ge 24, 3) := by decide +kernel
theorem dX8_pairThose_39 : decode cX8_pairThose 39 = .ok (.aload_n 0, 1) := by decide +kernel
theorem dX8_pairThose_40 : decode cX8_pairThose 40 = .ok (.getfield 96, 3) := by decide +kernel
theorem dX8_pairThose_43 : decode cX8_pairThose 43 = .ok (.sipush 256, 3) := by decide +kernel
theorem dX8_pairThose_46 : decode cX8_pairThose 46 = .ok (.iload 5, 2) := by decide +kernel
theorem dX8_pairThose_48 : decode cX8_pairThose 48 = .ok (.imul, 1) := by decide +kernel
theorem dX8_pairThose_49 : decode cX8_pairThose 49 = .ok (.iload 7, 2) := by decide +kernel
theorem dX8_pairThose_51 : decode cX8_pairThose 51 = .ok (.iadd, 1) := by decide +kernel
theorem dX8_pairThose_52 : decode cX8_pairThose 52 = .ok (.iconst 0, 1) := by decide +kernel
theorem dX8_pairThose_53 : decode cX8_pairThose 53 = .ok (.iastore, 1) := by decide +kernel
theorem dX8_pairThose_54 : decode cX8_pairThose 54 = .ok (.iinc 7 1, 3) := by decide +kernel
theorem dX8_pairThose_57 : decode cX8_pairThose 57 = .ok (.goto (-26), 3) := by decide +kernel
theorem dX8_pairThose_60 : decode cX8_pairThose 60 = .ok (.iload 5, 2) := by decide +kernel
theorem dX8_pairThose_62 : decode cX8_pairThose 62 = .ok (.iconst 1, 1) := by decide +kernel
theorem dX8_pairThose_63 : decode cX8_pairThose 63 = .ok (.isub, 1) := by decide +kernel
theorem dX8_pairThose_64 : decode cX8_pairThose 64 = .ok (.istore 7, 2) := by decide +kernel
theorem dX8_pairThose_66 : decode cX8_pairThose 66 = .ok (.iload 7, 2) := by decide +kernel
theorem dX8_pairThose_68 : decode cX8_pairThose 68 = .ok (.ifCond .lt 153, 3) := by decide +kernel
theorem dX8_pairThose_71 : decode cX8_pairThose 71 = .ok (.iconst 0, 1) := by decide +kernel
theorem dX8_pairThose_72 : decode cX8_pairThose 72 = .ok (.istore 8, 2) := by decide +kernel
theorem dX8_pairThose_74 : decode cX8_pairThose 74 = .ok (.iload 8, 2) := by decide +kernel
theorem dX8_pairThose_76 : decode cX8_pairThose 76 = .ok (.iconst 1, 1) := by decide +kernel
theorem dX8_pairThose_77 : decode cX8_pairThose 77 = .ok (.iload 6, 2) := by decide +kernel
theorem dX8_pairThose_79 : decode cX8_pairThose 79 = .ok (.ishl, 1) := by decide +kernel
theorem dX8_pairThose_80 : decode cX8_pairThose 80 = .ok (.if_icmp .ge 135, 3) := by decide +kernel
theorem dX8_pairThose_83 : decode cX8_pairThose 83 = .ok (.aload_n 0, 1) := by decide +kernel
theorem dX8_pairThose_84 : decode cX8_pairThose 84 = .ok (.getfield 96, 3) := by decide +kernel
theorem dX8_pairThose_87 : decode cX8_pairThose 87 = .ok (.sipush 256, 3) := by decide +kernel
theorem dX8_pairThose_90 : decode cX8_pairThose 90 = .ok (.iload 7, 2) := by decide +kernel
theorem dX8_pairThose_92 : decode cX8_pairThose 92 = .ok (.iconst 1, 1) := by decide +kernel
theorem dX8_pairThose_93 : decode cX8_pairThose 93 = .ok (.iadd, 1) := by decide +kernel
theorem dX8_pairThose_94 : decode cX8_pairThose 94 = .ok (.imul, 1) := by decide +kernel
theorem dX8_pairThose_95 : decode cX8_pairThose 95 = .ok (.iload 8, 2) := by decide +kernel
theorem dX8_pairThose_97 : decode cX8_pairThose 97 = .ok (.iadd, 1) := by decide +kernel
theorem dX8_pairThose_98 : decode cX8_pairThose 98 = .ok (.iaload, 1) := by decide +kernel
theorem dX8_pairThose_99 : decode cX8_pairThose 99 = .ok (.istore 9, 2) := by decide +kernel
theorem dX8_pairThose_101 : decode cX8_pairThose 101 = .ok (.iconst 0, 1) := by decide +kernel
theorem dX8_pairThose_102 : decode cX8_pairThose 102 = .ok (.istore 10, 2) := by decide +kernel
theorem dX8_pairThose_104 : decode cX8_pairThose 104 = .ok (.iload 10, 2) := by decide +kernel
theorem dX8_pairThose_106 : decode cX8_pairThose 106 = .ok (.iload 6, 2) := by decide +kernel
theorem dX8_pairThose_108 : decode cX8_pairThose 108 = .ok (.if_icmp .ge 85, 3) := by decide +kernel
theorem dX8_pairThose_111 : decode cX8_pairThose 111 = .ok (.iload 8, 2) := by decide +kernel
theorem dX8_pairThose_113 : decode cX8_pairThose 113 = .ok (.iload 10, 2) := by decide +kernel
theorem dX8_pairThose_115 : decode cX8_pairThose 115 = .ok (.ishr, 1) := by decide +kernel
theorem dX8_pairThose_116 : decode cX8_pairThose 116 = .ok (.iconst 1, 1) := by decide +kernel
theorem dX8_pairThose_117 : decode cX8_pairThose 117 = .ok (.iand, 1) := by decide +kernel
theorem dX8_pairThose_118 : decode cX8_pairThose 118 = .ok (.iconst 1, 1) := by decide +kernel
theorem dX8_pairThose_119 : decode cX8_pairThose 119 = .ok (.if_icmp .ne 7, 3) := by decide +kernel
theorem dX8_pairThose_122 : decode cX8_pairThose 122 = .ok (.iconst (-1), 1) := by decide +kernel
theorem dX8_pairThose_123 : decode cX8_pairThose 123 = .ok (.goto 11, 3) := by decide +kernel
theorem dX8_pairThose_126 : decode cX8_pairThose 126 = .ok (.aload_n 0, 1) := by decide +kernel
theorem dX8_pairThose_127 : decode cX8_pairThose 127 = .ok (.iload 7, 2) := by decide +kernel
theorem dX8_pairThose_129 : decode cX8_pairThose 129 = .ok (.iload 10, 2) := by decide +kernel
theorem dX8_pairThose_131 : decode cX8_pairThose 131 = .ok (.invokevirtual 168, 3) := by decide +kernel
theorem dX8_pairThose_134 : decode cX8_pairThose 134 = .ok (.istore 11, 2) := by decide +kernel
theorem dX8_pairThose_136 : decode cX8_pairThose 136 = .ok (.iload 11, 2) := by decide +kernel
theorem dX8_pairThose_138 : decode cX8_pairThose 138 = .ok (.ifCond .ge 7, 3) := by decide +kernel
theorem dX8_pairThose_141 : decode cX8_pairThose 141 = .ok (.iconst 0, 1) := by decide +kernel
theorem dX8_pairThose_142 : decode cX8_pairThose 142 = .ok (.goto 27, 3) := by decide +kernel
theorem dX8_pairThose_145 : decode cX8_pairThose 145 = .ok (.iload 11, 2) := by decide +kernel
theorem dX8_pairThose_147 : decode cX8_pairThose 147 = .ok (.aload_n 0, 1) := by decide +kernel
theorem dX8_pairThose_148 : decode cX8_pairThose 148 = .ok (.getfield 96, 3) := by decide +kernel
theorem dX8_pairThose_151 : decode cX8_pairThose 151 = .ok (.sipush 256, 3) := by decide +kernel
theorem dX8_pairThose_154 : decode cX8_pairThose 154 = .ok (.iload 7, 2) := by decide +kernel
theorem dX8_pairThose_156 : decode cX8_pairThose 156 = .ok (.iconst 1, 1) := by decide +kernel
theorem dX8_pairThose_157 : decode cX8_pairThose 157 = .ok (.iadd, 1) := by decide +kernel
theorem dX8_pairThose_158 : decode cX8_pairThose 158 = .ok (.imul, 1) := by decide +kernel
theorem dX8_pairThose_159 : decode cX8_pairThose 159 = .ok (.iload 8, 2) := by decide +kernel
theorem dX8_pairThose_161 : decode cX8_pairThose 161 = .ok (.iconst 1, 1) := by decide +kernel
theorem dX8_pairThose_162 : decode cX8_pairThose 162 = .ok (.iload 10, 2) := by decide +kernel
theorem dX8_pairThose_164 : decode cX8_pairThose 164 = .ok (.ishl, 1) := by decide +kernel
theorem dX8_pairThose_165 : decode cX8_pairThose 165 = .ok (.ior, 1) := by decide +kernel
theorem dX8_pairThose_166 : decode cX8_pairThose 166 = .ok (.iadd, 1) := by decide +kernel
theorem dX8_pairThose_167 : decode cX8_pairThose 167 = .ok (.iaload, 1) := by decide +kernel
theorem dX8_pairThose_168 : decode cX8_pairThose 168 = .ok (.iadd, 1) := by decide +kernel
theorem dX8_pairThose_169 : decode cX8_pairThose 169 = .ok (.istore 12, 2) := by decide +kernel
theorem dX8_pairThose_171 : decode cX8_pairThose 171 = .ok (.iload 12, 2) := by decide +kernel
theorem dX8_pairThose_173 : decode cX8_pairThose 173 = .ok (.iload 9, 2) := by decide +kernel
theorem dX8_pairThose_175 : decode cX8_pairThose 175 = .ok (.if_icmp .le 8, 3) := by decide +kernel
theorem dX8_pairThose_178 : decode cX8_pairThose 178 = .ok (.iload 12, 2) := by decide +kernel
theorem dX8_pairThose_180 : decode cX8_pairThose 180 = .ok (.goto 5, 3) := by decide +kernel
theorem dX8_pairThose_183 : decode cX8_pairThose 183 = .ok (.iload 9, 2) := by decide +kernel
theorem dX8_pairThose_185 : decode cX8_pairThose 185 = .ok (.istore 9, 2) := by decide +kernel
theorem dX8_pairThose_187 : decode cX8_pairThose 187 = .ok (.iinc 10 1, 3) := by decide +kernel
theorem dX8_pairThose_190 : decode cX8_pairThose 190 = .ok (.goto (-86), 3) := by decide +kernel
theorem dX8_pairThose_193 : decode cX8_pairThose 193 = .ok (.aload_n 0, 1) := by decide +kernel
theorem dX8_pairThose_194 : decode cX8_pairThose 194 = .ok (.getfield 96, 3) := by decide +kernel
theorem dX8_pairThose_197 : decode cX8_pairThose 197 = .ok (.sipush 256, 3) := by decide +kernel
theorem dX8_pairThose_200 : decode cX8_pairThose 200 = .ok (.iload 7, 2) := by decide +kernel
theorem dX8_pairThose_202 : decode cX8_pairThose 202 = .ok (.imul, 1) := by decide +kernel
theorem dX8_pairThose_203 : decode cX8_pairThose 203 = .ok (.iload 8, 2) := by decide +kernel
theorem dX8_pairThose_205 : decode cX8_pairThose 205 = .ok (.iadd, 1) := by decide +kernel
theorem dX8_pairThose_206 : decode cX8_pairThose 206 = .ok (.iload 9, 2) := by decide +kernel
theorem dX8_pairThose_208 : decode cX8_pairThose 208 = .ok (.iastore, 1) := by decide +kernel
theorem dX8_pairThose_209 : decode cX8_pairThose 209 = .ok (.iinc 8 1, 3) := by decide +kernel
theorem dX8_pairThose_212 : decode cX8_pairThose 212 = .ok (.goto (-138), 3) := by decide +kernel
theorem dX8_pairThose_215 : decode cX8_pairThose 215 = .ok (.iinc 7 (-1), 3) := by decide +kernel
theorem dX8_pairThose_218 : decode cX8_pairThose 218 = .ok (.goto (-152), 3) := by decide +kernel
theorem dX8_pairThose_221 : decode cX8_pairThose 221 = .ok (.iconst 0, 1) := by decide +kernel
theorem dX8_pairThose_222 : decode cX8_pairThose 222 = .ok (.istore 7, 2) := by decide +kernel
theorem dX8_pairThose_224 : decode cX8_pairThose 224 = .ok (.iconst 0, 1) := by decide +kernel
theorem dX8_pairThose_225 : decode cX8_pairThose 225 = .ok (.istore 8, 2) := by decide +kernel
theorem dX8_pairThose_227 : decode cX8_pairThose 227 = .ok (.iconst 0, 1) := by decide +kernel
theorem dX8_pairThose_228 : decode cX8_pairThose 228 = .ok (.istore 9, 2) := by decide +kernel
theorem dX8_pairThose_230 : decode cX8_pairThose 230 = .ok (.iload 9, 2) := by decide +kernel
theorem dX8_pairThose_232 : decode cX8_pairThose 232 = .ok (.iload 5, 2) := by decide +kernel
theorem dX8_pairThose_234 : decode cX8_pairThose 234 = .ok (.if_icmp .ge 151, 3) := by decide +kernel
theorem dX8_pairThose_237 : decode cX8_pairThose 237 = .ok (.iload 8, 2) := by decide +kernel
theorem dX8_pairThose_239 : decode cX8_pairThose 239 = .ok (.iload 4, 2) := by decide +kernel
theorem dX8_pairThose_241 : decode cX8_pairThose 241 = .ok (.if_icmp .ge 144, 3) := by decide +kernel
theorem dX8_pairThose_244 : decode cX8_pairThose 244 = .ok (.iconst (-1), 1) := by decide +kernel
theorem dX8_pairThose_245 : decode cX8_pairThose 245 = .ok (.istore 10, 2) := by decide +kernel
theorem dX8_pairThose_247 : decode cX8_pairThose 247 = .ok (.iload 6, 2) := by decide +kernel
theorem dX8_pairThose_249 : decode cX8_pairThose 249 = .ok (.iconst 1, 1) := by decide +kernel
theorem dX8_pairThose_250 : decode cX8_pairThose 250 = .ok (.isub, 1) := by decide +kernel
theorem dX8_pairThose_251 : decode cX8_pairThose 251 = .ok (.istore 11, 2) := by decide +kernel
theorem dX8_pairThose_253 : decode cX8_pairThose 253 = .ok (.iload 11, 2) := by decide +kernel
theorem dX8_pairThose_255 : decode cX8_pairThose 255 = .ok (.ifCond .lt 89, 3) := by decide +kernel
theorem dX8_pairThose_258 : decode cX8_pairThose 258 = .ok (.iload 7, 2) := by decide +kernel
theorem dX8_pairThose_260 : decode cX8_pairThose 260 = .ok (.iload 11, 2) := by decide +kernel
theorem dX8_pairThose_262 : decode cX8_pairThose 262 = .ok (.ishr, 1) := by decide +kernel
theorem dX8_pairThose_263 : decode cX8_pairThose 263 = .ok (.iconst 1, 1) := by decide +kernel
theorem dX8_pairThose_264 : decode cX8_pairThose 264 = .ok (.iand, 1) := by decide +kernel
theorem dX8_pairThose_265 : decode cX8_pairThose 265 = .ok (.iconst 1, 1) := by decide +kernel
theorem dX8_pairThose_266 : decode cX8_pairThose 266 = .ok (.if_icmp .ne 7, 3) := by decide +kernel
theorem dX8_pairThose_269 : decode cX8_pairThose 269 = .ok (.iconst (-1), 1) := by decide +kernel
theorem dX8_pairThose_270 : decode cX8_pairThose 270 = .ok (.goto 11, 3) := by decide +kernel
theorem dX8_pairThose_273 : decode cX8_pairThose 273 = .ok (.aload_n 0, 1) := by decide +kernel
theorem dX8_pairThose_274 : decode cX8_pairThose 274 = .ok (.iload 9, 2) := by decide +kernel
theorem dX8_pairThose_276 : decode cX8_pairThose 276 = .ok (.iload 11, 2) := by decide +kernel
theorem dX8_pairThose_278 : decode cX8_pairThose 278 = .ok (.invokevirtual 168, 3) := by decide +kernel
theorem dX8_pairThose_281 : decode cX8_pairThose 281 = .ok (.istore 12, 2) := by decide +kernel
theorem dX8_pairThose_283 : decode cX8_pairThose 283 = .ok (.iload 12, 2) := by decide +kernel
theorem dX8_pairThose_285 : decode cX8_pairThose 285 = .ok (.ifCond .lt 49, 3) := by decide +kernel
theorem dX8_pairThose_288 : decode cX8_pairThose 288 = .ok (.iload 12, 2) := by decide +kernel
theorem dX8_pairThose_290 : decode cX8_pairThose 290 = .ok (.aload_n 0, 1) := by decide +kernel
theorem dX8_pairThose_291 : decode cX8_pairThose 291 = .ok (.getfield 96, 3) := by decide +kernel
theorem dX8_pairThose_294 : decode cX8_pairThose 294 = .ok (.sipush 256, 3) := by decide +kernel
theorem dX8_pairThose_297 : decode cX8_pairThose 297 = .ok (.iload 9, 2) := by decide +kernel
theorem dX8_pairThose_299 : decode cX8_pairThose 299 = .ok (.iconst 1, 1) := by decide +kernel
theorem dX8_pairThose_300 : decode cX8_pairThose 300 = .ok (.iadd, 1) := by decide +kernel
theorem dX8_pairThose_301 : decode cX8_pairThose 301 = .ok (.imul, 1) := by decide +kernel
theorem dX8_pairThose_302 : decode cX8_pairThose 302 = .ok (.iload 7, 2) := by decide +kernel
theorem dX8_pairThose_304 : decode cX8_pairThose 304 = .ok (.iconst 1, 1) := by decide +kernel
theorem dX8_pairThose_305 : decode cX8_pairThose 305 = .ok (.iload 11, 2) := by decide +kernel
theorem dX8_pairThose_307 : decode cX8_pairThose 307 = .ok (.ishl, 1) := by decide +kernel
theorem dX8_pairThose_308 : decode cX8_pairThose 308 = .ok (.ior, 1) := by decide +kernel
theorem dX8_pairThose_309 : decode cX8_pairThose 309 = .ok (.iadd, 1) := by decide +kernel
theorem dX8_pairThose_310 : decode cX8_pairThose 310 = .ok (.iaload, 1) := by decide +kernel
theorem dX8_pairThose_311 : decode cX8_pairThose 311 = .ok (.iadd, 1) := by decide +kernel
theorem dX8_pairThose_312 : decode cX8_pairThose 312 = .ok (.aload_n 0, 1) := by decide +kernel
theorem dX8_pairThose_313 : decode cX8_pairThose 313 = .ok (.getfield 96, 3) := by decide +kernel
theorem dX8_pairThose_316 : decode cX8_pairThose 316 = .ok (.sipush 256, 3) := by decide +kernel
theorem dX8_pairThose_319 : decode cX8_pairThose 319 = .ok (.iload 9, 2) := by decide +kernel
theorem dX8_pairThose_321 : decode cX8_pairThose 321 = .ok (.imul, 1) := by decide +kernel
theorem dX8_pairThose_322 : decode cX8_pairThose 322 = .ok (.iload 7, 2) := by decide +kernel
theorem dX8_pairThose_324 : decode cX8_pairThose 324 = .ok (.iadd, 1) := by decide +kernel
theorem dX8_pairThose_325 : decode cX8_pairThose 325 = .ok (.iaload, 1) := by decide +kernel
theorem dX8_pairThose_326 : decode cX8_pairThose 326 = .ok (.if_icmp .ne 8, 3) := by decide +kernel
theorem dX8_pairThose_329 : decode cX8_pairThose 329 = .ok (.iload 11, 2) := by decide +kernel
theorem dX8_pairThose_331 : decode cX8_pairThose 331 = .ok (.goto 5, 3) := by decide +kernel
theorem dX8_pairThose_334 : decode cX8_pairThose 334 = .ok (.iload 10, 2) := by decide +kernel
theorem dX8_pairThose_336 : decode cX8_pairThose 336 = .ok (.istore 10, 2) := by decide +kernel
theorem dX8_pairThose_338 : decode cX8_pairThose 338 = .ok (.iinc 11 (-1), 3) := by decide +kernel
theorem dX8_pairThose_341 : decode cX8_pairThose 341 = .ok (.goto (-88), 3) := by decide +kernel
theorem dX8_pairThose_344 : decode cX8_pairThose 344 = .ok (.iload 10, 2) := by decide +kernel
theorem dX8_pairThose_346 : decode cX8_pairThose 346 = .ok (.ifCond .lt 33, 3) := by decide +kernel
theorem dX8_pairThose_349 : decode cX8_pairThose 349 = .ok (.iload 7, 2) := by decide +kernel
theorem dX8_pairThose_351 : decode cX8_pairThose 351 = .ok (.iconst 1, 1) := by decide +kernel
theorem dX8_pairThose_352 : decode cX8_pairThose 352 = .ok (.iload 10, 2) := by decide +kernel
theorem dX8_pairThose_354 : decode cX8_pairThose 354 = .ok (.ishl, 1) := by decide +kernel
theorem dX8_pairThose_355 : decode cX8_pairThose 355 = .ok (.ior, 1) := by decide +kernel
theorem dX8_pairThose_356 : decode cX8_pairThose 356 = .ok (.istore 7, 2) := by decide +kernel
theorem dX8_pairThose_358 : decode cX8_pairThose 358 = .ok (.aload_n 0, 1) := by decide +kernel
theorem dX8_pairThose_359 : decode cX8_pairThose 359 = .ok (.aload_n 0, 1) := by decide +kernel
theorem dX8_pairThose_360 : decode cX8_pairThose 360 = .ok (.getfield 90, 3) := by decide +kernel
theorem dX8_pairThose_363 : decode cX8_pairThose 363 = .ok (.iload 9, 2) := by decide +kernel
theorem dX8_pairThose_365 : decode cX8_pairThose 365 = .ok (.iaload, 1) := by decide +kernel
theorem dX8_pairThose_366 : decode cX8_pairThose 366 = .ok (.aload_n 0, 1) := by decide +kernel
theorem dX8_pairThose_367 : decode cX8_pairThose 367 = .ok (.getfield 93, 3) := by decide +kernel
theorem dX8_pairThose_370 : decode cX8_pairThose 370 = .ok (.iload 10, 2) := by decide +kernel
theorem dX8_pairThose_372 : decode cX8_pairThose 372 = .ok (.iaload, 1) := by decide +kernel
theorem dX8_pairThose_373 : decode cX8_pairThose 373 = .ok (.invokevirtual 172, 3) := by decide +kernel
theorem dX8_pairThose_376 : decode cX8_pairThose 376 = .ok (.iinc 8 1, 3) := by decide +kernel
theorem dX8_pairThose_379 : decode cX8_pairThose 379 = .ok (.iinc 9 1, 3) := by decide +kernel
theorem dX8_pairThose_382 : decode cX8_pairThose 382 = .ok (.goto (-152), 3) := by decide +kernel
theorem dX8_pairThose_385 : decode cX8_pairThose 385 = .ok (.iload 8, 2) := by decide +kernel
theorem dX8_pairThose_387 : decode cX8_pairThose 387 = .ok (.ireturn, 1) := by decide +kernel
theorem dX8_made_0 : decode cX8_made 0 = .ok (.aload_n 0, 1) := by decide +kernel
theorem dX8_made_1 : decode cX8_made 1 = .ok (.getfield 176, 3) := by decide +kernel
theorem dX8_made_4 : decode cX8_made 4 = .ok (.istore_n 3, 1) := by decide +kernel
theorem dX8_made_5 : decode cX8_made 5 = .ok (.aload_n 0, 1) := by decide +kernel
theorem dX8_made_6 : decode cX8_made 6 = .ok (.dup, 1) := by decide +kernel
theorem dX8_made_7 : decode cX8_made 7 = .ok (.getfield 176, 3) := by decide +kernel
theorem dX8_made_10 : decode cX8_made 10 = .ok (.iconst 1, 1) := by decide +kernel
theorem dX8_made_11 : decode cX8_made 11 = .ok (.iadd, 1) := by decide +kernel
theorem dX8_made_12 : decode cX8_made 12 = .ok (.putfield 176, 3) := by decide +kernel
theorem dX8_made_15 : decode cX8_made 15 = .ok (.aload_n 0, 1) := by decide +kernel
theorem dX8_made_16 : decode cX8_made 16 = .ok (.getfield 60, 3) := by decide +kernel
theorem dX8_made_19 : decode cX8_made 19 = .ok (.iload_n 3, 1) := by decide +kernel
theorem dX8_made_20 : decode cX8_made 20 = .ok (.iload_n 1, 1) := by decide +kernel
theorem dX8_made_21 : decode cX8_made 21 = .ok (.iastore, 1) := by decide +kernel
theorem dX8_made_22 : decode cX8_made 22 = .ok (.aload_n 0, 1) := by decide +kernel
theorem dX8_made_23 : decode cX8_made 23 = .ok (.getfield 63, 3) := by decide +kernel
theorem dX8_made_26 : decode cX8_made 26 = .ok (.iload_n 3, 1) := by decide +kernel
theorem dX8_made_27 : decode cX8_made 27 = .ok (.iload_n 2, 1) := by decide +kernel
theorem dX8_made_28 : decode cX8_made 28 = .ok (.iastore, 1) := by decide +kernel
theorem dX8_made_29 : decode cX8_made 29 = .ok (.aload_n 0, 1) := by decide +kernel
theorem dX8_made_30 : decode cX8_made 30 = .ok (.getfield 54, 3) := by decide +kernel
theorem dX8_made_33 : decode cX8_made 33 = .ok (.iload_n 1, 1) := by decide +kernel
theorem dX8_made_34 : decode cX8_made 34 = .ok (.iconst 1, 1) := by decide +kernel
theorem dX8_made_35 : decode cX8_made 35 = .ok (.iastore, 1) := by decide +kernel
theorem dX8_made_36 : decode cX8_made 36 = .ok (.aload_n 0, 1) := by decide +kernel
theorem dX8_made_37 : decode cX8_made 37 = .ok (.getfield 54, 3) := by decide +kernel
theorem dX8_made_40 : decode cX8_made 40 = .ok (.iload_n 2, 1) := by decide +kernel
theorem dX8_made_41 : decode cX8_made 41 = .ok (.iconst 1, 1) := by decide +kernel
theorem dX8_made_42 : decode cX8_made 42 = .ok (.iastore, 1) := by decide +kernel
theorem dX8_made_43 : decode cX8_made 43 = .ok (.aload_n 0, 1) := by decide +kernel
theorem dX8_made_44 : decode cX8_made 44 = .ok (.getfield 57, 3) := by decide +kernel
theorem dX8_made_47 : decode cX8_made 47 = .ok (.iload_n 1, 1) := by decide +kernel
theorem dX8_made_48 : decode cX8_made 48 = .ok (.iload_n 3, 1) := by decide +kernel
theorem dX8_made_49 : decode cX8_made 49 = .ok (.iastore, 1) := by decide +kernel
theorem dX8_made_50 : decode cX8_made 50 = .ok (.aload_n 0, 1) := by decide +kernel
theorem dX8_made_51 : decode cX8_made 51 = .ok (.getfield 57, 3) := by decide +kernel
theorem dX8_made_54 : decode cX8_made 54 = .ok (.iload_n 2, 1) := by decide +kernel
theorem dX8_made_55 : decode cX8_made 55 = .ok (.iload_n 3, 1) := by decide +kernel
theorem dX8_made_56 : decode cX8_made 56 = .ok (.iastore, 1) := by decide +kernel
theorem dX8_made_57 : decode cX8_made 57 = .ok (.aload_n 0, 1) := by decide +kernel
theorem dX8_made_58 : decode cX8_made 58 = .ok (.getfield 48, 3) := by decide +kernel
theorem dX8_made_61 : decode cX8_made 61 = .ok (.iload_n 1, 1) := by decide +kernel
theorem dX8_made_62 : decode cX8_made 62 = .ok (.iaload, 1) := by decide +kernel
theorem dX8_made_63 : decode cX8_made 63 = .ok (.istore 4, 2) := by decide +kernel
theorem dX8_made_65 : decode cX8_made 65 = .ok (.aload_n 0, 1) := by decide +kernel
theorem dX8_made_66 : decode cX8_made 66 = .ok (.getfield 48, 3) := by decide +kernel
theorem dX8_made_69 : decode cX8_made 69 = .ok (.iload_n 2, 1) := by decide +kernel
theorem dX8_made_70 : decode cX8_made 70 = .ok (.iaload, 1) := by decide +kernel
theorem dX8_made_71 : decode cX8_made 71 = .ok (.istore 5, 2) := by decide +kernel
theorem dX8_made_73 : decode cX8_made 73 = .ok (.aload_n 0, 1) := by decide +kernel
theorem dX8_made_74 : decode cX8_made 74 = .ok (.getfield 66, 3) := by decide +kernel
theorem dX8_made_77 : decode cX8_made 77 = .ok (.iload_n 3, 1) := by decide +kernel
theorem dX8_made_78 : decode cX8_made 78 = .ok (.aload_n 0, 1) := by decide +kernel
theorem dX8_made_79 : decode cX8_made 79 = .ok (.getfield 161, 3) := by decide +kernel
theorem dX8_made_82 : decode cX8_made 82 = .ok (.ifCond .ne 8, 3) := by decide +kernel
theorem dX8_made_85 : decode cX8_made 85 = .ok (.iload 5, 2) := by decide +kernel
theorem dX8_made_87 : decode cX8_made 87 = .ok (.goto 51, 3) := by decide +kernel
theorem dX8_made_90 : decode cX8_made 90 = .ok (.aload_n 0, 1) := by decide +kernel
theorem dX8_made_91 : decode cX8_made 91 = .ok (.getfield 161, 3) := by decide +kernel
theorem dX8_made_94 : decode cX8_made 94 = .ok (.iconst 3, 1) := by decide +kernel
theorem dX8_made_95 : decode cX8_made 95 = .ok (.if_icmp .ne 8, 3) := by decide +kernel
theorem dX8_made_98 : decode cX8_made 98 = .ok (.iload 4, 2) := by decide +kernel
theorem dX8_made_100 : decode cX8_made 100 = .ok (.goto 38, 3) := by decide +kernel
theorem dX8_made_103 : decode cX8_made 103 = .ok (.aload_n 0, 1) := by decide +kernel
theorem dX8_made_104 : decode cX8_made 104 = .ok (.getfield 161, 3) := by decide +kernel
theorem dX8_made_107 : decode cX8_made 107 = .ok (.iconst 1, 1) := by decide +kernel
theorem dX8_made_108 : decode cX8_made 108 = .ok (.if_icmp .ne 7, 3) := by decide +kernel
theorem dX8_made_111 : decode cX8_made 111 = .ok (.iconst 1, 1) := by decide +kernel
theorem dX8_made_112 : decode cX8_made 112 = .ok (.goto 4, 3) := by decide +kernel
theorem dX8_made_115 : decode cX8_made 115 = .ok (.iconst 0, 1) := by decide +kernel
theorem dX8_made_116 : decode cX8_made 116 = .ok (.iload 4, 2) := by decide +kernel
theorem dX8_made_118 : decode cX8_made 118 = .ok (.iload 5, 2) := by decide +kernel
theorem dX8_made_120 : decode cX8_made 120 = .ok (.if_icmp .ge 7, 3) := by decide +kernel
theorem dX8_made_123 : decode cX8_made 123 = .ok (.iconst 1, 1) := by decide +kernel
theorem dX8_made_124 : decode cX8_made 124 = .ok (.goto 4, 3) := by decide +kernel
theorem dX8_made_127 : decode cX8_made 127 = .ok (.iconst 0, 1) := by decide +kernel
theorem dX8_made_128 : decode cX8_made 128 = .ok (.if_icmp .ne 8, 3) := by decide +kernel
theorem dX8_made_131 : decode cX8_made 131 = .ok (.iload 4, 2) := by decide +kernel
theorem dX8_made_133 : decode cX8_made 133 = .ok (.goto 5, 3) := by decide +kernel
theorem dX8_made_136 : decode cX8_made 136 = .ok (.iload 5, 2) := by decide +kernel
theorem dX8_made_138 : decode cX8_made 138 = .ok (.iastore, 1) := by decide +kernel
theorem dX8_made_139 : decode cX8_made 139 = .ok (.aload_n 0, 1) := by decide +kernel
theorem dX8_made_140 : decode cX8_made 140 = .ok (.aload_n 0, 1) := by decide +kernel
theorem dX8_made_141 : decode cX8_made 141 = .ok (.getfield 39, 3) := by decide +kernel
theorem dX8_made_144 : decode cX8_made 144 = .ok (.iload_n 1, 1) := by decide +kernel
theorem dX8_made_145 : decode cX8_made 145 = .ok (.iaload, 1) := by decide +kernel
theorem dX8_made_146 : decode cX8_made 146 = .ok (.aload_n 0, 1) := by decide +kernel
theorem dX8_made_147 : decode cX8_made 147 = .ok (.getfield 45, 3) := by decide +kernel
theorem dX8_made_150 : decode cX8_made 150 = .ok (.iload_n 1, 1) := by decide +kernel
theorem dX8_made_151 : decode cX8_made 151 = .ok (.iaload, 1) := by decide +kernel
theorem dX8_made_152 : decode cX8_made 152 = .ok (.aload_n 0, 1) := by decide +kernel
theorem dX8_made_153 : decode cX8_made 153 = .ok (.getfield 51, 3) := by decide +kernel
theorem dX8_made_156 : decode cX8_made 156 = .ok (.iload_n 2, 1) := by decide +kernel
theorem dX8_made_157 : decode cX8_made 157 = .ok (.iaload, 1) := by decide +kernel
theorem dX8_made_158 : decode cX8_made 158 = .ok (.aload_n 0, 1) := by decide +kernel
theorem dX8_made_159 : decode cX8_made 159 = .ok (.getfield 66, 3) := by decide +kernel
theorem dX8_made_162 : decode cX8_made 162 = .ok (.iload_n 3, 1) := by decide +kernel
theorem dX8_made_163 : decode cX8_made 163 = .ok (.iaload, 1) := by decide +kernel
theorem dX8_made_164 : decode cX8_made 164 = .ok (.ineg, 1) := by decide +kernel
theorem dX8_made_165 : decode cX8_made 165 = .ok (.invokevirtual 153, 3) := by decide +kernel
theorem dX8_made_168 : decode cX8_made 168 = .ok (.aload_n 0, 1) := by decide +kernel
theorem dX8_made_169 : decode cX8_made 169 = .ok (.aload_n 0, 1) := by decide +kernel
theorem dX8_made_170 : decode cX8_made 170 = .ok (.getfield 42, 3) := by decide +kernel
theorem dX8_made_173 : decode cX8_made 173 = .ok (.iload_n 1, 1) := by decide +kernel
theorem dX8_made_174 : decode cX8_made 174 = .ok (.iaload, 1) := by decide +kernel
theorem dX8_made_175 : decode cX8_made 175 = .ok (.aload_n 0, 1) := by decide +kernel
theorem dX8_made_176 : decode cX8_made 176 = .ok (.getfield 45, 3) := by decide +kernel
theorem dX8_made_179 : decode cX8_made 179 = .ok (.iload_n 1, 1) := by decide +kernel
theorem dX8_made_180 : decode cX8_made 180 = .ok (.iaload, 1) := by decide +kernel
theorem dX8_made_181 : decode cX8_made 181 = .ok (.aload_n 0, 1) := by decide +kernel
theorem dX8_made_182 : decode cX8_made 182 = .ok (.getfield 51, 3) := by decide +kernel
theorem dX8_made_185 : decode cX8_made 185 = .ok (.iload_n 2, 1) := by decide +kernel
theorem dX8_made_186 : decode cX8_made 186 = .ok (.iaload, 1) := by decide +kernel
theorem dX8_made_187 : decode cX8_made 187 = .ok (.aload_n 0, 1) := by decide +kernel
theorem dX8_made_188 : decode cX8_made 188 = .ok (.getfield 66, 3) := by decide +kernel
theorem dX8_made_191 : decode cX8_made 191 = .ok (.iload_n 3, 1) := by decide +kernel
theorem dX8_made_192 : decode cX8_made 192 = .ok (.iaload, 1) := by decide +kernel
theorem dX8_made_193 : decode cX8_made 193 = .ok (.invokevirtual 153, 3) := by decide +kernel
theorem dX8_made_196 : decode cX8_made 196 = .ok (.return_, 1) := by decide +kernel
theorem dX8_pair_0 : decode cX8_pair 0 = .ok (.aload_n 0, 1) := by decide +kernel
theorem dX8_pair_1 : decode cX8_pair 1 = .ok (.getfield 133, 3) := by decide +kernel
theorem dX8_pair_4 : decode cX8_pair 4 = .ok (.sipush 1900, 3) := by decide +kernel
theorem dX8_pair_7 : decode cX8_pair 7 = .ok (.if_icmp .le 10, 3) := by decide +kernel
theorem dX8_pair_10 : decode cX8_pair 10 = .ok (.aload_n 0, 1) := by decide +kernel
theorem dX8_pair_11 : decode cX8_pair 11 = .ok (.bipush (-6), 2) := by decide +kernel
theorem dX8_pair_13 : decode cX8_pair 13 = .ok (.invokevirtual 126, 3) := by decide +kernel
theorem dX8_pair_16 : decode cX8_pair 16 = .ok (.ireturn, 1) := by decide +kernel
theorem dX8_pair_17 : decode cX8_pair 17 = .ok (.iconst 0, 1) := by decide +kernel
theorem dX8_pair_18 : decode cX8_pair 18 = .ok (.istore_n 1, 1) := by decide +kernel
theorem dX8_pair_19 : decode cX8_pair 19 = .ok (.iconst 0, 1) := by decide +kernel
theorem dX8_pair_20 : decode cX8_pair 20 = .ok (.istore_n 2, 1) := by decide +kernel
theorem dX8_pair_21 : decode cX8_pair 21 = .ok (.iload_n 2, 1) := by decide +kernel
theorem dX8_pair_22 : decode cX8_pair 22 = .ok (.aload_n 0, 1) := by decide +kernel
theorem dX8_pair_23 : decode cX8_pair 23 = .ok (.getfield 115, 3) := by decide +kernel
theorem dX8_pair_26 : decode cX8_pair 26 = .ok (.if_icmp .ge 64, 3) := by decide +kernel
theorem dX8_pair_29 : decode cX8_pair 29 = .ok (.iconst 0, 1) := by decide +kernel
theorem dX8_pair_30 : decode cX8_pair 30 = .ok (.istore_n 3, 1) := by decide +kernel
theorem dX8_pair_31 : decode cX8_pair 31 = .ok (.iload_n 3, 1) := by decide +kernel
theorem dX8_pair_32 : decode cX8_pair 32 = .ok (.aload_n 0, 1) := by decide +kernel
theorem dX8_pair_33 : decode cX8_pair 33 = .ok (.getfield 115, 3) := by decide +kernel
theorem dX8_pair_36 : decode cX8_pair 36 = .ok (.if_icmp .ge 48, 3) := by decide +kernel
theorem dX8_pair_39 : decode cX8_pair 39 = .ok (.iconst 0, 1) := by decide +kernel
theorem dX8_pair_40 : decode cX8_pair 40 = .ok (.istore 4, 2) := by decide +kernel
theorem dX8_pair_42 : decode cX8_pair 42 = .ok (.iload 4, 2) := by decide +kernel
theorem dX8_pair_44 : decode cX8_pair 44 = .ok (.aload_n 0, 1) := by decide +kernel
theorem dX8_pair_45 : decode cX8_pair 45 = .ok (.getfield 123, 3) := by decide +kernel
theorem dX8_pair_48 : decode cX8_pair 48 = .ok (.if_icmp .ge 30, 3) := by decide +kernel
theorem dX8_pair_51 : decode cX8_pair 51 = .ok (.iload_n 1, 1) := by decide +kernel
theorem dX8_pair_52 : decode cX8_pair 52 = .ok (.bipush 25, 2) := by decide +kernel
theorem dX8_pair_54 : decode cX8_pair 54 = .ok (.if_icmp .ge 24, 3) := by decide +kernel
theorem dX8_pair_57 : decode cX8_pair 57 = .ok (.iload_n 1, 1) := by decide +kernel
theorem dX8_pair_58 : decode cX8_pair 58 = .ok (.aload_n 0, 1) := by decide +kernel
theorem dX8_pair_59 : decode cX8_pair 59 = .ok (.iload_n 2, 1) := by decide +kernel
theorem dX8_pair_60 : decode cX8_pair 60 = .ok (.iload_n 3, 1) := by decide +kernel
theorem dX8_pair_61 : decode cX8_pair 61 = .ok (.iload 4, 2) := by decide +kernel
theorem dX8_pair_63 : decode cX8_pair 63 = .ok (.bipush 25, 2) := by decide +kernel
theorem dX8_pair_65 : decode cX8_pair 65 = .ok (.iload_n 1, 1) := by decide +kernel
theorem dX8_pair_66 : decode cX8_pair 66 = .ok (.isub, 1) := by decide +kernel
theorem dX8_pair_67 : decode cX8_pair 67 = .ok (.invokevirtual 179, 3) := by decide +kernel
theorem dX8_pair_70 : decode cX8_pair 70 = .ok (.iadd, 1) := by decide +kernel
theorem dX8_pair_71 : decode cX8_pair 71 = .ok (.istore_n 1, 1) := by decide +kernel
theorem dX8_pair_72 : decode cX8_pair 72 = .ok (.iinc 4 1, 3) := by decide +kernel
theorem dX8_pair_75 : decode cX8_pair 75 = .ok (.goto (-33), 3) := by decide +kernel
theorem dX8_pair_78 : decode cX8_pair 78 = .ok (.iinc 3 1, 3) := by decide +kernel
theorem dX8_pair_81 : decode cX8_pair 81 = .ok (.goto (-50), 3) := by decide +kernel
theorem dX8_pair_84 : decode cX8_pair 84 = .ok (.iinc 2 1, 3) := by decide +kernel
theorem dX8_pair_87 : decode cX8_pair 87 = .ok (.goto (-66), 3) := by decide +kernel
theorem dX8_pair_90 : decode cX8_pair 90 = .ok (.iload_n 1, 1) := by decide +kernel
theorem dX8_pair_91 : decode cX8_pair 91 = .ok (.ireturn, 1) := by decide +kernel
theorem dX8_isQuarrel_0 : decode cX8_isQuarrel 0 = .ok (.aload_n 0, 1) := by decide +kernel
theorem dX8_isQuarrel_1 : decode cX8_isQuarrel 1 = .ok (.getfield 48, 3) := by decide +kernel
theorem dX8_isQuarrel_4 : decode cX8_isQuarrel 4 = .ok (.aload_n 0, 1) := by decide +kernel
theorem dX8_isQuarrel_5 : decode cX8_isQuarrel 5 = .ok (.getfield 60, 3) := by decide +kernel
theorem dX8_isQuarrel_8 : decode cX8_isQuarrel 8 = .ok (.iload_n 1, 1) := by decide +kernel
theorem dX8_isQuarrel_9 : decode cX8_isQuarrel 9 = .ok (.iaload, 1) := by decide +kernel
theorem dX8_isQuarrel_10 : decode cX8_isQuarrel 10 = .ok (.iaload, 1) := by decide +kernel
theorem dX8_isQuarrel_11 : decode cX8_isQuarrel 11 = .ok (.aload_n 0, 1) := by decide +kernel
theorem dX8_isQuarrel_12 : decode cX8_isQuarrel 12 = .ok (.getfield 48, 3) := by decide +kernel
theorem dX8_isQuarrel_15 : decode cX8_isQuarrel 15 = .ok (.aload_n 0, 1) := by decide +kernel
theorem dX8_isQuarrel_16 : decode cX8_isQuarrel 16 = .ok (.getfield 63, 3) := by decide +kernel
theorem dX8_isQuarrel_19 : decode cX8_isQuarrel 19 = .ok (.iload_n 1, 1) := by decide +kernel
theorem dX8_isQuarrel_20 : decode cX8_isQuarrel 20 = .ok (.iaload, 1) := by decide +kernel
theorem dX8_isQuarrel_21 : decode cX8_isQuarrel 21 = .ok (.iaload, 1) := by decide +kernel
theorem dX8_isQuarrel_22 : decode cX8_isQuarrel 22 = .ok (.if_icmp .eq 7, 3) := by decide +kernel
theorem dX8_isQuarrel_25 : decode cX8_isQuarrel 25 = .ok (.iconst 1, 1) := by decide +kernel
theorem dX8_isQuarrel_26 : decode cX8_isQuarrel 26 = .ok (.goto 4, 3) := by decide +kernel
theorem dX8_isQuarrel_29 : decode cX8_isQuarrel 29 = .ok (.iconst 0, 1) := by decide +kernel
theorem dX8_isQuarrel_30 : decode cX8_isQuarrel 30 = .ok (.ireturn, 1) := by decide +kernel
theorem dX8_judge_0 : decode cX8_judge 0 = .ok (.iload_n 1, 1) := by decide +kernel
theorem dX8_judge_1 : decode cX8_judge 1 = .ok (.iconst 0, 1) := by decide +kernel
theorem dX8_judge_2 : decode cX8_judge 2 = .ok (.aload_n 0, 1) := by decide +kernel
theorem dX8_judge_3 : decode cX8_judge 3 = .ok (.getfield 176, 3) := by decide +kernel
theorem dX8_judge_6 : decode cX8_judge 6 = .ok (.iconst 1, 1) := by decide +kernel
theorem dX8_judge_7 : decode cX8_judge 7 = .ok (.isub, 1) := by decide +kernel
theorem dX8_judge_8 : decode cX8_judge 8 = .ok (.invokestatic 119, 3) := by decide +kernel
theorem dX8_judge_11 : decode cX8_judge 11 = .ok (.ifCond .ne 9, 3) := by decide +kernel
theorem dX8_judge_14 : decode cX8_judge 14 = .ok (.aload_n 0, 1) := by decide +kernel
theorem dX8_judge_15 : decode cX8_judge 15 = .ok (.iconst (-1), 1) := by decide +kernel
theorem dX8_judge_16 : decode cX8_judge 16 = .ok (.invokevirtual 126, 3) := by decide +kernel
theorem dX8_judge_19 : decode cX8_judge 19 = .ok (.ireturn, 1) := by decide +kernel
theorem dX8_judge_20 : decode cX8_judge 20 = .ok (.aload_n 0, 1) := by decide +kernel
theorem dX8_judge_21 : decode cX8_judge 21 = .ok (.iload_n 1, 1) := by decide +kernel
theorem dX8_judge_22 : decode cX8_judge 22 = .ok (.invokevirtual 183, 3) := by decide +kernel
theorem dX8_judge_25 : decode cX8_judge 25 = .ok (.ifCond .ne 10, 3) := by decide +kernel
theorem dX8_judge_28 : decode cX8_judge 28 = .ok (.aload_n 0, 1) := by decide +kernel
theorem dX8_judge_29 : decode cX8_judge 29 = .ok (.bipush (-3), 2) := by decide +kernel
theorem dX8_judge_31 : decode cX8_judge 31 = .ok (.invokevirtual 126, 3) := by decide +kernel
theorem dX8_judge_34 : decode cX8_judge 34 = .ok (.ireturn, 1) := by decide +kernel
theorem dX8_judge_35 : decode cX8_judge 35 = .ok (.iload_n 2, 1) := by decide +kernel
theorem dX8_judge_36 : decode cX8_judge 36 = .ok (.ifCond .ge 10, 3) := by decide +kernel
theorem dX8_judge_39 : decode cX8_judge 39 = .ok (.aload_n 0, 1) := by decide +kernel
theorem dX8_judge_40 : decode cX8_judge 40 = .ok (.bipush (-4), 2) := by decide +kernel
theorem dX8_judge_42 : decode cX8_judge 42 = .ok (.invokevirtual 126, 3) := by decide +kernel
theorem dX8_judge_45 : decode cX8_judge 45 = .ok (.ireturn, 1) := by decide +kernel
theorem dX8_judge_46 : decode cX8_judge 46 = .ok (.iload_n 2, 1) := by decide +kernel
theorem dX8_judge_47 : decode cX8_judge 47 = .ok (.sipush 1000, 3) := by decide +kernel
theorem dX8_judge_50 : decode cX8_judge 50 = .ok (.if_icmp .gt 13, 3) := by decide +kernel
theorem dX8_judge_53 : decode cX8_judge 53 = .ok (.aload_n 0, 1) := by decide +kernel
theorem dX8_judge_54 : decode cX8_judge 54 = .ok (.getfield 133, 3) := by decide +kernel
theorem dX8_judge_57 : decode cX8_judge 57 = .ok (.sipush 1998, 3) := by decide +kernel
theorem dX8_judge_60 : decode cX8_judge 60 = .ok (.if_icmp .le 10, 3) := by decide +kernel
theorem dX8_judge_63 : decode cX8_judge 63 = .ok (.aload_n 0, 1) := by decide +kernel
theorem dX8_judge_64 : decode cX8_judge 64 = .ok (.bipush (-6), 2) := by decide +kernel
theorem dX8_judge_66 : decode cX8_judge 66 = .ok (.invokevirtual 126, 3) := by decide +kernel
theorem dX8_judge_69 : decode cX8_judge 69 = .ok (.ireturn, 1) := by decide +kernel
theorem dX8_judge_70 : decode cX8_judge 70 = .ok (.aload_n 0, 1) := by decide +kernel
theorem dX8_judge_71 : decode cX8_judge 71 = .ok (.getfield 66, 3) := by decide +kernel
theorem dX8_judge_74 : decode cX8_judge 74 = .ok (.iload_n 1, 1) := by decide +kernel
theorem dX8_judge_75 : decode cX8_judge 75 = .ok (.iaload, 1) := by decide +kernel
theorem dX8_judge_76 : decode cX8_judge 76 = .ok (.istore_n 3, 1) := by decide +kernel
theorem dX8_judge_77 : decode cX8_judge 77 = .ok (.aload_n 0, 1) := by decide +kernel
theorem dX8_judge_78 : decode cX8_judge 78 = .ok (.getfield 66, 3) := by decide +kernel
theorem dX8_judge_81 : decode cX8_judge 81 = .ok (.iload_n 1, 1) := by decide +kernel
theorem dX8_judge_82 : decode cX8_judge 82 = .ok (.iload_n 2, 1) := by decide +kernel
theorem dX8_judge_83 : decode cX8_judge 83 = .ok (.iastore, 1) := by decide +kernel
theorem dX8_judge_84 : decode cX8_judge 84 = .ok (.aload_n 0, 1) := by decide +kernel
theorem dX8_judge_85 : decode cX8_judge 85 = .ok (.getfield 69, 3) := by decide +kernel
theorem dX8_judge_88 : decode cX8_judge 88 = .ok (.iload_n 1, 1) := by decide +kernel
theorem dX8_judge_89 : decode cX8_judge 89 = .ok (.iconst 1, 1) := by decide +kernel
theorem dX8_judge_90 : decode cX8_judge 90 = .ok (.bastore, 1) := by decide +kernel
theorem dX8_judge_91 : decode cX8_judge 91 = .ok (.aload_n 0, 1) := by decide +kernel
theorem dX8_judge_92 : decode cX8_judge 92 = .ok (.getfield 60, 3) := by decide +kernel
theorem dX8_judge_95 : decode cX8_judge 95 = .ok (.iload_n 1, 1) := by decide +kernel
theorem dX8_judge_96 : decode cX8_judge 96 = .ok (.iaload, 1) := by decide +kernel
theorem dX8_judge_97 : decode cX8_judge 97 = .ok (.istore 4, 2) := by decide +kernel
theorem dX8_judge_99 : decode cX8_judge 99 = .ok (.iload_n 2, 1) := by decide +kernel
theorem dX8_judge_100 : decode cX8_judge 100 = .ok (.iload_n 3, 1) := by decide +kernel
theorem dX8_judge_101 : decode cX8_judge 101 = .ok (.if_icmp .eq 67, 3) := by decide +kernel
theorem dX8_judge_104 : decode cX8_judge 104 = .ok (.aload_n 0, 1) := by decide +kernel
theorem dX8_judge_105 : decode cX8_judge 105 = .ok (.aload_n 0, 1) := by decide +kernel
theorem dX8_judge_106 : decode cX8_judge 106 = .ok (.getfield 39, 3) := by decide +kernel
theorem dX8_judge_109 : decode cX8_judge 109 = .ok (.iload 4, 2) := by decide +kernel
theorem dX8_judge_111 : decode cX8_judge 111 = .ok (.iaload, 1) := by decide +kernel
theorem dX8_judge_112 : decode cX8_judge 112 = .ok (.aload_n 0, 1) := by decide +kernel
theorem dX8_judge_113 : decode cX8_judge 113 = .ok (.getfield 45, 3) := by decide +kernel
theorem dX8_judge_116 : decode cX8_judge 116 = .ok (.iload 4, 2) := by decide +kernel
theorem dX8_judge_118 : decode cX8_judge 118 = .ok (.iaload, 1) := by decide +kernel
theorem dX8_judge_119 : decode cX8_judge 119 = .ok (.aload_n 0, 1) := by decide +kernel
theorem dX8_judge_120 : decode cX8_judge 120 = .ok (.getfield 51, 3) := by decide +kernel
theorem dX8_judge_123 : decode cX8_judge 123 = .ok (.aload_n 0, 1) := by decide +kernel
theorem dX8_judge_124 : decode cX8_judge 124 = .ok (.getfield 63, 3) := by decide +kernel
theorem dX8_judge_127 : decode cX8_judge 127 = .ok (.iload_n 1, 1) := by decide +kernel
theorem dX8_judge_128 : decode cX8_judge 128 = .ok (.iaload, 1) := by decide +kernel
theorem dX8_judge_129 : decode cX8_judge 129 = .ok (.iaload, 1) := by decide +kernel
theorem dX8_judge_130 : decode cX8_judge 130 = .ok (.iload_n 3, 1) := by decide +kernel
theorem dX8_judge_131 : decode cX8_judge 131 = .ok (.iload_n 2, 1) := by decide +kernel
theorem dX8_judge_132 : decode cX8_judge 132 = .ok (.isub, 1) := by decide +kernel
theorem dX8_judge_133 : decode cX8_judge 133 = .ok (.invokevirtual 153, 3) := by decide +kernel
theorem dX8_judge_136 : decode cX8_judge 136 = .ok (.aload_n 0, 1) := by decide +kernel
theorem dX8_judge_137 : decode cX8_judge 137 = .ok (.aload_n 0, 1) := by decide +kernel
theorem dX8_judge_138 : decode cX8_judge 138 = .ok (.getfield 42, 3) := by decide +kernel
theorem dX8_judge_141 : decode cX8_judge 141 = .ok (.iload 4, 2) := by decide +kernel
theorem dX8_judge_143 : decode cX8_judge 143 = .ok (.iaload, 1) := by decide +kernel
theorem dX8_judge_144 : decode cX8_judge 144 = .ok (.aload_n 0, 1) := by decide +kernel
theorem dX8_judge_145 : decode cX8_judge 145 = .ok (.getfield 45, 3) := by decide +kernel
theorem dX8_judge_148 : decode cX8_judge 148 = .ok (.iload 4, 2) := by decide +kernel
theorem dX8_judge_150 : decode cX8_judge 150 = .ok (.iaload, 1) := by decide +kernel
theorem dX8_judge_151 : decode cX8_judge 151 = .ok (.aload_n 0, 1) := by decide +kernel
theorem dX8_judge_152 : decode cX8_judge 152 = .ok (.getfield 51, 3) := by decide +kernel
theorem dX8_judge_155 : decode cX8_judge 155 = .ok (.aload_n 0, 1) := by decide +kernel
theorem dX8_judge_156 : decode cX8_judge 156 = .ok (.getfield 63, 3) := by decide +kernel
theorem dX8_judge_159 : decode cX8_judge 159 = .ok (.iload_n 1, 1) := by decide +kernel
theorem dX8_judge_160 : decode cX8_judge 160 = .ok (.iaload, 1) := by decide +kernel
theorem dX8_judge_161 : decode cX8_judge 161 = .ok (.iaload, 1) := by decide +kernel
theorem dX8_judge_162 : decode cX8_judge 162 = .ok (.iload_n 2, 1) := by decide +kernel
theorem dX8_judge_163 : decode cX8_judge 163 = .ok (.iload_n 3, 1) := by decide +kernel
theorem dX8_judge_164 : decode cX8_judge 164 = .ok (.isub, 1) := by decide +kernel
theorem dX8_judge_165 : decode cX8_judge 165 = .ok (.invokevirtual 153, 3) := by decide +kernel
theorem dX8_judge_168 : decode cX8_judge 168 = .ok (.iload_n 3, 1) := by decide +kernel
theorem dX8_judge_169 : decode cX8_judge 169 = .ok (.ireturn, 1) := by decide +kernel
theorem dX8_turnsOf_0 : decode cX8_turnsOf 0 = .ok (.iconst 0, 1) := by decide +kernel
theorem dX8_turnsOf_1 : decode cX8_turnsOf 1 = .ok (.istore_n 3, 1) := by decide +kernel
theorem dX8_turnsOf_2 : decode cX8_turnsOf 2 = .ok (.iconst 0, 1) := by decide +kernel
theorem dX8_turnsOf_3 : decode cX8_turnsOf 3 = .ok (.istore 4, 2) := by decide +kernel
theorem dX8_turnsOf_5 : decode cX8_turnsOf 5 = .ok (.iload 4, 2) := by decide +kernel
theorem dX8_turnsOf_7 : decode cX8_turnsOf 7 = .ok (.aload_n 0, 1) := by decide +kernel
theorem dX8_turnsOf_8 : decode cX8_turnsOf 8 = .ok (.getfield 176, 3) := by decide +kernel
theorem dX8_turnsOf_11 : decode cX8_turnsOf 11 = .ok (.if_icmp .ge 55, 3) := by decide +kernel
theorem dX8_turnsOf_14 : decode cX8_turnsOf 14 = .ok (.iload_n 3, 1) := by decide +kernel
theorem dX8_turnsOf_15 : decode cX8_turnsOf 15 = .ok (.aload_n 0, 1) := by decide +kernel
theorem dX8_turnsOf_16 : decode cX8_turnsOf 16 = .ok (.getfield 42, 3) := by decide +kernel
theorem dX8_turnsOf_19 : decode cX8_turnsOf 19 = .ok (.aload_n 0, 1) := by decide +kernel
theorem dX8_turnsOf_20 : decode cX8_turnsOf 20 = .ok (.getfield 60, 3) := by decide +kernel
theorem dX8_turnsOf_23 : decode cX8_turnsOf 23 = .ok (.iload 4, 2) := by decide +kernel
theorem dX8_turnsOf_25 : decode cX8_turnsOf 25 = .ok (.iaload, 1) := by decide +kernel
theorem dX8_turnsOf_26 : decode cX8_turnsOf 26 = .ok (.iaload, 1) := by decide +kernel
