theorem dX0_init_0 : decode cX0_init 0 = .ok (.aload_n 0, 1) := by decide +kernel
theorem dX0_init_1 : decode cX0_init 1 = .ok (.invokespecial 3, 3) := by decide +kernel
theorem dX0_init_4 : decode cX0_init 4 = .ok (.aload_n 0, 1) := by decide +kernel
theorem dX0_init_5 : decode cX0_init 5 = .ok (.bipush 10, 2) := by decide +kernel
theorem dX0_init_7 : decode cX0_init 7 = .ok (.newarray .int, 2) := by decide +kernel
theorem dX0_init_9 : decode cX0_init 9 = .ok (.putfield 9, 3) := by decide +kernel
theorem dX0_init_12 : decode cX0_init 12 = .ok (.aload_n 0, 1) := by decide +kernel
theorem dX0_init_13 : decode cX0_init 13 = .ok (.bipush 10, 2) := by decide +kernel
theorem dX0_init_15 : decode cX0_init 15 = .ok (.newarray .int, 2) := by decide +kernel
theorem dX0_init_17 : decode cX0_init 17 = .ok (.putfield 15, 3) := by decide +kernel
theorem dX0_init_20 : decode cX0_init 20 = .ok (.aload_n 0, 1) := by decide +kernel
theorem dX0_init_21 : decode cX0_init 21 = .ok (.bipush 100, 2) := by decide +kernel
theorem dX0_init_23 : decode cX0_init 23 = .ok (.newarray .int, 2) := by decide +kernel
theorem dX0_init_25 : decode cX0_init 25 = .ok (.putfield 18, 3) := by decide +kernel
theorem dX0_init_28 : decode cX0_init 28 = .ok (.aload_n 0, 1) := by decide +kernel
theorem dX0_init_29 : decode cX0_init 29 = .ok (.bipush 100, 2) := by decide +kernel
theorem dX0_init_31 : decode cX0_init 31 = .ok (.newarray .int, 2) := by decide +kernel
theorem dX0_init_33 : decode cX0_init 33 = .ok (.putfield 21, 3) := by decide +kernel
theorem dX0_init_36 : decode cX0_init 36 = .ok (.aload_n 0, 1) := by decide +kernel
theorem dX0_init_37 : decode cX0_init 37 = .ok (.bipush 10, 2) := by decide +kernel
theorem dX0_init_39 : decode cX0_init 39 = .ok (.newarray .int, 2) := by decide +kernel
theorem dX0_init_41 : decode cX0_init 41 = .ok (.putfield 24, 3) := by decide +kernel
theorem dX0_init_44 : decode cX0_init 44 = .ok (.aload_n 0, 1) := by decide +kernel
theorem dX0_init_45 : decode cX0_init 45 = .ok (.bipush 10, 2) := by decide +kernel
theorem dX0_init_47 : decode cX0_init 47 = .ok (.newarray .int, 2) := by decide +kernel
theorem dX0_init_49 : decode cX0_init 49 = .ok (.putfield 27, 3) := by decide +kernel
theorem dX0_init_52 : decode cX0_init 52 = .ok (.aload_n 0, 1) := by decide +kernel
theorem dX0_init_53 : decode cX0_init 53 = .ok (.bipush 10, 2) := by decide +kernel
theorem dX0_init_55 : decode cX0_init 55 = .ok (.newarray .int, 2) := by decide +kernel
theorem dX0_init_57 : decode cX0_init 57 = .ok (.putfield 30, 3) := by decide +kernel
theorem dX0_init_60 : decode cX0_init 60 = .ok (.aload_n 0, 1) := by decide +kernel
theorem dX0_init_61 : decode cX0_init 61 = .ok (.bipush 10, 2) := by decide +kernel
theorem dX0_init_63 : decode cX0_init 63 = .ok (.newarray .int, 2) := by decide +kernel
theorem dX0_init_65 : decode cX0_init 65 = .ok (.putfield 33, 3) := by decide +kernel
theorem dX0_init_68 : decode cX0_init 68 = .ok (.aload_n 0, 1) := by decide +kernel
theorem dX0_init_69 : decode cX0_init 69 = .ok (.bipush 10, 2) := by decide +kernel
theorem dX0_init_71 : decode cX0_init 71 = .ok (.newarray .int, 2) := by decide +kernel
theorem dX0_init_73 : decode cX0_init 73 = .ok (.putfield 36, 3) := by decide +kernel
theorem dX0_init_76 : decode cX0_init 76 = .ok (.aload_n 0, 1) := by decide +kernel
theorem dX0_init_77 : decode cX0_init 77 = .ok (.bipush 10, 2) := by decide +kernel
theorem dX0_init_79 : decode cX0_init 79 = .ok (.newarray .int, 2) := by decide +kernel
theorem dX0_init_81 : decode cX0_init 81 = .ok (.putfield 39, 3) := by decide +kernel
theorem dX0_init_84 : decode cX0_init 84 = .ok (.return_, 1) := by decide +kernel
theorem dX0_hasEnough_0 : decode cX0_hasEnough 0 = .ok (.iconst 0, 1) := by decide +kernel
theorem dX0_hasEnough_1 : decode cX0_hasEnough 1 = .ok (.istore_n 1, 1) := by decide +kernel
theorem dX0_hasEnough_2 : decode cX0_hasEnough 2 = .ok (.iconst 0, 1) := by decide +kernel
theorem dX0_hasEnough_3 : decode cX0_hasEnough 3 = .ok (.istore_n 2, 1) := by decide +kernel
theorem dX0_hasEnough_4 : decode cX0_hasEnough 4 = .ok (.iload_n 2, 1) := by decide +kernel
theorem dX0_hasEnough_5 : decode cX0_hasEnough 5 = .ok (.bipush 10, 2) := by decide +kernel
theorem dX0_hasEnough_7 : decode cX0_hasEnough 7 = .ok (.if_icmp .ge 25, 3) := by decide +kernel
theorem dX0_hasEnough_10 : decode cX0_hasEnough 10 = .ok (.iload_n 1, 1) := by decide +kernel
theorem dX0_hasEnough_11 : decode cX0_hasEnough 11 = .ok (.aload_n 0, 1) := by decide +kernel
theorem dX0_hasEnough_12 : decode cX0_hasEnough 12 = .ok (.getfield 9, 3) := by decide +kernel
theorem dX0_hasEnough_15 : decode cX0_hasEnough 15 = .ok (.iload_n 2, 1) := by decide +kernel
theorem dX0_hasEnough_16 : decode cX0_hasEnough 16 = .ok (.iaload, 1) := by decide +kernel
theorem dX0_hasEnough_17 : decode cX0_hasEnough 17 = .ok (.aload_n 0, 1) := by decide +kernel
theorem dX0_hasEnough_18 : decode cX0_hasEnough 18 = .ok (.getfield 15, 3) := by decide +kernel
theorem dX0_hasEnough_21 : decode cX0_hasEnough 21 = .ok (.iload_n 2, 1) := by decide +kernel
theorem dX0_hasEnough_22 : decode cX0_hasEnough 22 = .ok (.iaload, 1) := by decide +kernel
theorem dX0_hasEnough_23 : decode cX0_hasEnough 23 = .ok (.isub, 1) := by decide +kernel
theorem dX0_hasEnough_24 : decode cX0_hasEnough 24 = .ok (.iadd, 1) := by decide +kernel
theorem dX0_hasEnough_25 : decode cX0_hasEnough 25 = .ok (.istore_n 1, 1) := by decide +kernel
theorem dX0_hasEnough_26 : decode cX0_hasEnough 26 = .ok (.iinc 2 1, 3) := by decide +kernel
theorem dX0_hasEnough_29 : decode cX0_hasEnough 29 = .ok (.goto (-25), 3) := by decide +kernel
theorem dX0_hasEnough_32 : decode cX0_hasEnough 32 = .ok (.iload_n 1, 1) := by decide +kernel
theorem dX0_hasEnough_33 : decode cX0_hasEnough 33 = .ok (.ifCond .lt 7, 3) := by decide +kernel
theorem dX0_hasEnough_36 : decode cX0_hasEnough 36 = .ok (.iconst 1, 1) := by decide +kernel
theorem dX0_hasEnough_37 : decode cX0_hasEnough 37 = .ok (.goto 4, 3) := by decide +kernel
theorem dX0_hasEnough_40 : decode cX0_hasEnough 40 = .ok (.iconst 0, 1) := by decide +kernel
theorem dX0_hasEnough_41 : decode cX0_hasEnough 41 = .ok (.ireturn, 1) := by decide +kernel
theorem dX0_leastSum_0 : decode cX0_leastSum 0 = .ok (.aload_n 0, 1) := by decide +kernel
theorem dX0_leastSum_1 : decode cX0_leastSum 1 = .ok (.iload_n 1, 1) := by decide +kernel
theorem dX0_leastSum_2 : decode cX0_leastSum 2 = .ok (.bipush 10, 2) := by decide +kernel
theorem dX0_leastSum_4 : decode cX0_leastSum 4 = .ok (.invokestatic 42, 3) := by decide +kernel
theorem dX0_leastSum_7 : decode cX0_leastSum 7 = .ok (.putfield 48, 3) := by decide +kernel
theorem dX0_leastSum_10 : decode cX0_leastSum 10 = .ok (.aload_n 0, 1) := by decide +kernel
theorem dX0_leastSum_11 : decode cX0_leastSum 11 = .ok (.getfield 9, 3) := by decide +kernel
theorem dX0_leastSum_14 : decode cX0_leastSum 14 = .ok (.iconst 0, 1) := by decide +kernel
theorem dX0_leastSum_15 : decode cX0_leastSum 15 = .ok (.aload_n 0, 1) := by decide +kernel
theorem dX0_leastSum_16 : decode cX0_leastSum 16 = .ok (.getfield 24, 3) := by decide +kernel
theorem dX0_leastSum_19 : decode cX0_leastSum 19 = .ok (.iconst 0, 1) := by decide +kernel
theorem dX0_leastSum_20 : decode cX0_leastSum 20 = .ok (.bipush 10, 2) := by decide +kernel
theorem dX0_leastSum_22 : decode cX0_leastSum 22 = .ok (.invokestatic 52, 3) := by decide +kernel
theorem dX0_leastSum_25 : decode cX0_leastSum 25 = .ok (.aload_n 0, 1) := by decide +kernel
theorem dX0_leastSum_26 : decode cX0_leastSum 26 = .ok (.getfield 15, 3) := by decide +kernel
theorem dX0_leastSum_29 : decode cX0_leastSum 29 = .ok (.iconst 0, 1) := by decide +kernel
theorem dX0_leastSum_30 : decode cX0_leastSum 30 = .ok (.aload_n 0, 1) := by decide +kernel
theorem dX0_leastSum_31 : decode cX0_leastSum 31 = .ok (.getfield 27, 3) := by decide +kernel
theorem dX0_leastSum_34 : decode cX0_leastSum 34 = .ok (.iconst 0, 1) := by decide +kernel
theorem dX0_leastSum_35 : decode cX0_leastSum 35 = .ok (.bipush 10, 2) := by decide +kernel
theorem dX0_leastSum_37 : decode cX0_leastSum 37 = .ok (.invokestatic 52, 3) := by decide +kernel
theorem dX0_leastSum_40 : decode cX0_leastSum 40 = .ok (.aload_n 0, 1) := by decide +kernel
theorem dX0_leastSum_41 : decode cX0_leastSum 41 = .ok (.getfield 21, 3) := by decide +kernel
theorem dX0_leastSum_44 : decode cX0_leastSum 44 = .ok (.iconst 0, 1) := by decide +kernel
theorem dX0_leastSum_45 : decode cX0_leastSum 45 = .ok (.invokestatic 58, 3) := by decide +kernel
theorem dX0_leastSum_48 : decode cX0_leastSum 48 = .ok (.iconst 0, 1) := by decide +kernel
theorem dX0_leastSum_49 : decode cX0_leastSum 49 = .ok (.istore_n 2, 1) := by decide +kernel
theorem dX0_leastSum_50 : decode cX0_leastSum 50 = .ok (.iconst 0, 1) := by decide +kernel
theorem dX0_leastSum_51 : decode cX0_leastSum 51 = .ok (.istore_n 3, 1) := by decide +kernel
theorem dX0_leastSum_52 : decode cX0_leastSum 52 = .ok (.iload_n 3, 1) := by decide +kernel
theorem dX0_leastSum_53 : decode cX0_leastSum 53 = .ok (.sipush 1000, 3) := by decide +kernel
theorem dX0_leastSum_56 : decode cX0_leastSum 56 = .ok (.if_icmp .ge 44, 3) := by decide +kernel
theorem dX0_leastSum_59 : decode cX0_leastSum 59 = .ok (.aload_n 0, 1) := by decide +kernel
theorem dX0_leastSum_60 : decode cX0_leastSum 60 = .ok (.invokevirtual 64, 3) := by decide +kernel
theorem dX0_leastSum_63 : decode cX0_leastSum 63 = .ok (.aload_n 0, 1) := by decide +kernel
theorem dX0_leastSum_64 : decode cX0_leastSum 64 = .ok (.invokevirtual 67, 3) := by decide +kernel
theorem dX0_leastSum_67 : decode cX0_leastSum 67 = .ok (.istore 4, 2) := by decide +kernel
theorem dX0_leastSum_69 : decode cX0_leastSum 69 = .ok (.iload 4, 2) := by decide +kernel
theorem dX0_leastSum_71 : decode cX0_leastSum 71 = .ok (.ifCond .ge 6, 3) := by decide +kernel
theorem dX0_leastSum_74 : decode cX0_leastSum 74 = .ok (.goto 26, 3) := by decide +kernel
theorem dX0_leastSum_77 : decode cX0_leastSum 77 = .ok (.iload_n 2, 1) := by decide +kernel
theorem dX0_leastSum_78 : decode cX0_leastSum 78 = .ok (.aload_n 0, 1) := by decide +kernel
theorem dX0_leastSum_79 : decode cX0_leastSum 79 = .ok (.getfield 33, 3) := by decide +kernel
theorem dX0_leastSum_82 : decode cX0_leastSum 82 = .ok (.iload 4, 2) := by decide +kernel
theorem dX0_leastSum_84 : decode cX0_leastSum 84 = .ok (.iaload, 1) := by decide +kernel
theorem dX0_leastSum_85 : decode cX0_leastSum 85 = .ok (.aload_n 0, 1) := by decide +kernel
theorem dX0_leastSum_86 : decode cX0_leastSum 86 = .ok (.iload 4, 2) := by decide +kernel
theorem dX0_leastSum_88 : decode cX0_leastSum 88 = .ok (.invokevirtual 71, 3) := by decide +kernel
theorem dX0_leastSum_91 : decode cX0_leastSum 91 = .ok (.imul, 1) := by decide +kernel
theorem dX0_leastSum_92 : decode cX0_leastSum 92 = .ok (.iadd, 1) := by decide +kernel
theorem dX0_leastSum_93 : decode cX0_leastSum 93 = .ok (.istore_n 2, 1) := by decide +kernel
theorem dX0_leastSum_94 : decode cX0_leastSum 94 = .ok (.iinc 3 1, 3) := by decide +kernel
theorem dX0_leastSum_97 : decode cX0_leastSum 97 = .ok (.goto (-45), 3) := by decide +kernel
theorem dX0_leastSum_100 : decode cX0_leastSum 100 = .ok (.iload_n 2, 1) := by decide +kernel
theorem dX0_leastSum_101 : decode cX0_leastSum 101 = .ok (.ireturn, 1) := by decide +kernel
theorem dX0_findChains_0 : decode cX0_findChains 0 = .ok (.iconst 0, 1) := by decide +kernel
theorem dX0_findChains_1 : decode cX0_findChains 1 = .ok (.istore_n 1, 1) := by decide +kernel
theorem dX0_findChains_2 : decode cX0_findChains 2 = .ok (.iload_n 1, 1) := by decide +kernel
theorem dX0_findChains_3 : decode cX0_findChains 3 = .ok (.bipush 10, 2) := by decide +kernel
theorem dX0_findChains_5 : decode cX0_findChains 5 = .ok (.if_icmp .ge 52, 3) := by decide +kernel
theorem dX0_findChains_8 : decode cX0_findChains 8 = .ok (.aload_n 0, 1) := by decide +kernel
theorem dX0_findChains_9 : decode cX0_findChains 9 = .ok (.getfield 30, 3) := by decide +kernel
theorem dX0_findChains_12 : decode cX0_findChains 12 = .ok (.iload_n 1, 1) := by decide +kernel
theorem dX0_findChains_13 : decode cX0_findChains 13 = .ok (.aload_n 0, 1) := by decide +kernel
theorem dX0_findChains_14 : decode cX0_findChains 14 = .ok (.getfield 24, 3) := by decide +kernel
theorem dX0_findChains_17 : decode cX0_findChains 17 = .ok (.iload_n 1, 1) := by decide +kernel
theorem dX0_findChains_18 : decode cX0_findChains 18 = .ok (.iaload, 1) := by decide +kernel
theorem dX0_findChains_19 : decode cX0_findChains 19 = .ok (.ifCond .le 7, 3) := by decide +kernel
theorem dX0_findChains_22 : decode cX0_findChains 22 = .ok (.iconst 0, 1) := by decide +kernel
theorem dX0_findChains_23 : decode cX0_findChains 23 = .ok (.goto 5, 3) := by decide +kernel
theorem dX0_findChains_26 : decode cX0_findChains 26 = .ok (.ldc 75, 2) := by decide +kernel
theorem dX0_findChains_28 : decode cX0_findChains 28 = .ok (.iastore, 1) := by decide +kernel
theorem dX0_findChains_29 : decode cX0_findChains 29 = .ok (.aload_n 0, 1) := by decide +kernel
theorem dX0_findChains_30 : decode cX0_findChains 30 = .ok (.getfield 33, 3) := by decide +kernel
theorem dX0_findChains_33 : decode cX0_findChains 33 = .ok (.iload_n 1, 1) := by decide +kernel
theorem dX0_findChains_34 : decode cX0_findChains 34 = .ok (.ldc 75, 2) := by decide +kernel
theorem dX0_findChains_36 : decode cX0_findChains 36 = .ok (.iastore, 1) := by decide +kernel
theorem dX0_findChains_37 : decode cX0_findChains 37 = .ok (.aload_n 0, 1) := by decide +kernel
theorem dX0_findChains_38 : decode cX0_findChains 38 = .ok (.getfield 36, 3) := by decide +kernel
theorem dX0_findChains_41 : decode cX0_findChains 41 = .ok (.iload_n 1, 1) := by decide +kernel
theorem dX0_findChains_42 : decode cX0_findChains 42 = .ok (.iconst (-1), 1) := by decide +kernel
theorem dX0_findChains_43 : decode cX0_findChains 43 = .ok (.iastore, 1) := by decide +kernel
theorem dX0_findChains_44 : decode cX0_findChains 44 = .ok (.aload_n 0, 1) := by decide +kernel
theorem dX0_findChains_45 : decode cX0_findChains 45 = .ok (.getfield 39, 3) := by decide +kernel
theorem dX0_findChains_48 : decode cX0_findChains 48 = .ok (.iload_n 1, 1) := by decide +kernel
theorem dX0_findChains_49 : decode cX0_findChains 49 = .ok (.iconst (-1), 1) := by decide +kernel
theorem dX0_findChains_50 : decode cX0_findChains 50 = .ok (.iastore, 1) := by decide +kernel
theorem dX0_findChains_51 : decode cX0_findChains 51 = .ok (.iinc 1 1, 3) := by decide +kernel
theorem dX0_findChains_54 : decode cX0_findChains 54 = .ok (.goto (-52), 3) := by decide +kernel
theorem dX0_findChains_57 : decode cX0_findChains 57 = .ok (.iconst 0, 1) := by decide +kernel
theorem dX0_findChains_58 : decode cX0_findChains 58 = .ok (.istore_n 1, 1) := by decide +kernel
theorem dX0_findChains_59 : decode cX0_findChains 59 = .ok (.iload_n 1, 1) := by decide +kernel
theorem dX0_findChains_60 : decode cX0_findChains 60 = .ok (.bipush 20, 2) := by decide +kernel
theorem dX0_findChains_62 : decode cX0_findChains 62 = .ok (.if_icmp .ge 28, 3) := by decide +kernel
theorem dX0_findChains_65 : decode cX0_findChains 65 = .ok (.aload_n 0, 1) := by decide +kernel
theorem dX0_findChains_66 : decode cX0_findChains 66 = .ok (.invokevirtual 76, 3) := by decide +kernel
theorem dX0_findChains_69 : decode cX0_findChains 69 = .ok (.istore_n 2, 1) := by decide +kernel
theorem dX0_findChains_70 : decode cX0_findChains 70 = .ok (.iload_n 2, 1) := by decide +kernel
theorem dX0_findChains_71 : decode cX0_findChains 71 = .ok (.ifCond .eq 19, 3) := by decide +kernel
theorem dX0_findChains_74 : decode cX0_findChains 74 = .ok (.aload_n 0, 1) := by decide +kernel
theorem dX0_findChains_75 : decode cX0_findChains 75 = .ok (.invokevirtual 80, 3) := by decide +kernel
theorem dX0_findChains_78 : decode cX0_findChains 78 = .ok (.ifCond .ne 6, 3) := by decide +kernel
theorem dX0_findChains_81 : decode cX0_findChains 81 = .ok (.goto 9, 3) := by decide +kernel
theorem dX0_findChains_84 : decode cX0_findChains 84 = .ok (.iinc 1 1, 3) := by decide +kernel
theorem dX0_findChains_87 : decode cX0_findChains 87 = .ok (.goto (-28), 3) := by decide +kernel
theorem dX0_findChains_90 : decode cX0_findChains 90 = .ok (.return_, 1) := by decide +kernel
theorem dX0_reachWants_0 : decode cX0_reachWants 0 = .ok (.iconst 0, 1) := by decide +kernel
theorem dX0_reachWants_1 : decode cX0_reachWants 1 = .ok (.istore_n 1, 1) := by decide +kernel
theorem dX0_reachWants_2 : decode cX0_reachWants 2 = .ok (.iconst 0, 1) := by decide +kernel
theorem dX0_reachWants_3 : decode cX0_reachWants 3 = .ok (.istore_n 2, 1) := by decide +kernel
theorem dX0_reachWants_4 : decode cX0_reachWants 4 = .ok (.iload_n 2, 1) := by decide +kernel
theorem dX0_reachWants_5 : decode cX0_reachWants 5 = .ok (.aload_n 0, 1) := by decide +kernel
theorem dX0_reachWants_6 : decode cX0_reachWants 6 = .ok (.getfield 48, 3) := by decide +kernel
theorem dX0_reachWants_9 : decode cX0_reachWants 9 = .ok (.if_icmp .ge 87, 3) := by decide +kernel
theorem dX0_reachWants_12 : decode cX0_reachWants 12 = .ok (.aload_n 0, 1) := by decide +kernel
theorem dX0_reachWants_13 : decode cX0_reachWants 13 = .ok (.getfield 30, 3) := by decide +kernel
theorem dX0_reachWants_16 : decode cX0_reachWants 16 = .ok (.iload_n 2, 1) := by decide +kernel
theorem dX0_reachWants_17 : decode cX0_reachWants 17 = .ok (.iaload, 1) := by decide +kernel
theorem dX0_reachWants_18 : decode cX0_reachWants 18 = .ok (.ldc 75, 2) := by decide +kernel
theorem dX0_reachWants_20 : decode cX0_reachWants 20 = .ok (.if_icmp .lt 6, 3) := by decide +kernel
theorem dX0_reachWants_23 : decode cX0_reachWants 23 = .ok (.goto 67, 3) := by decide +kernel
theorem dX0_reachWants_26 : decode cX0_reachWants 26 = .ok (.iconst 0, 1) := by decide +kernel
theorem dX0_reachWants_27 : decode cX0_reachWants 27 = .ok (.istore_n 3, 1) := by decide +kernel
theorem dX0_reachWants_28 : decode cX0_reachWants 28 = .ok (.iload_n 3, 1) := by decide +kernel
theorem dX0_reachWants_29 : decode cX0_reachWants 29 = .ok (.aload_n 0, 1) := by decide +kernel
theorem dX0_reachWants_30 : decode cX0_reachWants 30 = .ok (.getfield 48, 3) := by decide +kernel
theorem dX0_reachWants_33 : decode cX0_reachWants 33 = .ok (.if_icmp .ge 57, 3) := by decide +kernel
theorem dX0_reachWants_36 : decode cX0_reachWants 36 = .ok (.aload_n 0, 1) := by decide +kernel
theorem dX0_reachWants_37 : decode cX0_reachWants 37 = .ok (.getfield 30, 3) := by decide +kernel
theorem dX0_reachWants_40 : decode cX0_reachWants 40 = .ok (.iload_n 2, 1) := by decide +kernel
theorem dX0_reachWants_41 : decode cX0_reachWants 41 = .ok (.iaload, 1) := by decide +kernel
theorem dX0_reachWants_42 : decode cX0_reachWants 42 = .ok (.aload_n 0, 1) := by decide +kernel
theorem dX0_reachWants_43 : decode cX0_reachWants 43 = .ok (.getfield 18, 3) := by decide +kernel
theorem dX0_reachWants_46 : decode cX0_reachWants 46 = .ok (.iload_n 2, 1) := by decide +kernel
theorem dX0_reachWants_47 : decode cX0_reachWants 47 = .ok (.bipush 10, 2) := by decide +kernel
theorem dX0_reachWants_49 : decode cX0_reachWants 49 = .ok (.imul, 1) := by decide +kernel
theorem dX0_reachWants_50 : decode cX0_reachWants 50 = .ok (.iload_n 3, 1) := by decide +kernel
theorem dX0_reachWants_51 : decode cX0_reachWants 51 = .ok (.iadd, 1) := by decide +kernel
theorem dX0_reachWants_52 : decode cX0_reachWants 52 = .ok (.iaload, 1) := by decide +kernel
theorem dX0_reachWants_53 : decode cX0_reachWants 53 = .ok (.iadd, 1) := by decide +kernel
theorem dX0_reachWants_54 : decode cX0_reachWants 54 = .ok (.istore 4, 2) := by decide +kernel
theorem dX0_reachWants_56 : decode cX0_reachWants 56 = .ok (.iload 4, 2) := by decide +kernel
theorem dX0_reachWants_58 : decode cX0_reachWants 58 = .ok (.aload_n 0, 1) := by decide +kernel
theorem dX0_reachWants_59 : decode cX0_reachWants 59 = .ok (.getfield 33, 3) := by decide +kernel
theorem dX0_reachWants_62 : decode cX0_reachWants 62 = .ok (.iload_n 3, 1) := by decide +kernel
theorem dX0_reachWants_63 : decode cX0_reachWants 63 = .ok (.iaload, 1) := by decide +kernel
theorem dX0_reachWants_64 : decode cX0_reachWants 64 = .ok (.if_icmp .ge 20, 3) := by decide +kernel
theorem dX0_reachWants_67 : decode cX0_reachWants 67 = .ok (.aload_n 0, 1) := by decide +kernel
theorem dX0_reachWants_68 : decode cX0_reachWants 68 = .ok (.getfield 33, 3) := by decide +kernel
theorem dX0_reachWants_71 : decode cX0_reachWants 71 = .ok (.iload_n 3, 1) := by decide +kernel
theorem dX0_reachWants_72 : decode cX0_reachWants 72 = .ok (.iload 4, 2) := by decide +kernel
theorem dX0_reachWants_74 : decode cX0_reachWants 74 = .ok (.iastore, 1) := by decide +kernel
theorem dX0_reachWants_75 : decode cX0_reachWants 75 = .ok (.aload_n 0, 1) := by decide +kernel
theorem dX0_reachWants_76 : decode cX0_reachWants 76 = .ok (.getfield 36, 3) := by decide +kernel
theorem dX0_reachWants_79 : decode cX0_reachWants 79 = .ok (.iload_n 3, 1) := by decide +kernel
theorem dX0_reachWants_80 : decode cX0_reachWants 80 = .ok (.iload_n 2, 1) := by decide +kernel
theorem dX0_reachWants_81 : decode cX0_reachWants 81 = .ok (.iastore, 1) := by decide +kernel
theorem dX0_reachWants_82 : decode cX0_reachWants 82 = .ok (.iconst 1, 1) := by decide +kernel
theorem dX0_reachWants_83 : decode cX0_reachWants 83 = .ok (.istore_n 1, 1) := by decide +kernel
theorem dX0_reachWants_84 : decode cX0_reachWants 84 = .ok (.iinc 3 1, 3) := by decide +kernel
theorem dX0_reachWants_87 : decode cX0_reachWants 87 = .ok (.goto (-59), 3) := by decide +kernel
theorem dX0_reachWants_90 : decode cX0_reachWants 90 = .ok (.iinc 2 1, 3) := by decide +kernel
theorem dX0_reachWants_93 : decode cX0_reachWants 93 = .ok (.goto (-89), 3) := by decide +kernel
theorem dX0_reachWants_96 : decode cX0_reachWants 96 = .ok (.iload_n 1, 1) := by decide +kernel
theorem dX0_reachWants_97 : decode cX0_reachWants 97 = .ok (.ireturn, 1) := by decide +kernel
theorem dX0_reachGivers_0 : decode cX0_reachGivers 0 = .ok (.iconst 0, 1) := by decide +kernel
theorem dX0_reachGivers_1 : decode cX0_reachGivers 1 = .ok (.istore_n 1, 1) := by decide +kernel
theorem dX0_reachGivers_2 : decode cX0_reachGivers 2 = .ok (.iconst 0, 1) := by decide +kernel
theorem dX0_reachGivers_3 : decode cX0_reachGivers 3 = .ok (.istore_n 2, 1) := by decide +kernel
theorem dX0_reachGivers_4 : decode cX0_reachGivers 4 = .ok (.iload_n 2, 1) := by decide +kernel
theorem dX0_reachGivers_5 : decode cX0_reachGivers 5 = .ok (.aload_n 0, 1) := by decide +kernel
theorem dX0_reachGivers_6 : decode cX0_reachGivers 6 = .ok (.getfield 48, 3) := by decide +kernel
theorem dX0_reachGivers_9 : decode cX0_reachGivers 9 = .ok (.if_icmp .ge 87, 3) := by decide +kernel
theorem dX0_reachGivers_12 : decode cX0_reachGivers 12 = .ok (.iconst 0, 1) := by decide +kernel
theorem dX0_reachGivers_13 : decode cX0_reachGivers 13 = .ok (.istore_n 3, 1) := by decide +kernel
theorem dX0_reachGivers_14 : decode cX0_reachGivers 14 = .ok (.iload_n 3, 1) := by decide +kernel
theorem dX0_reachGivers_15 : decode cX0_reachGivers 15 = .ok (.aload_n 0, 1) := by decide +kernel
theorem dX0_reachGivers_16 : decode cX0_reachGivers 16 = .ok (.getfield 48, 3) := by decide +kernel
theorem dX0_reachGivers_19 : decode cX0_reachGivers 19 = .ok (.if_icmp .ge 71, 3) := by decide +kernel
theorem dX0_reachGivers_22 : decode cX0_reachGivers 22 = .ok (.aload_n 0, 1) := by decide +kernel
theorem dX0_reachGivers_23 : decode cX0_reachGivers 23 = .ok (.getfield 33, 3) := by decide +kernel
theorem dX0_reachGivers_26 : decode cX0_reachGivers 26 = .ok (.iload_n 3, 1) := by decide +kernel
theorem dX0_reachGivers_27 : decode cX0_reachGivers 27 = .ok (.iaload, 1) := by decide +kernel
theorem dX0_reachGivers_28 : decode cX0_reachGivers 28 = .ok (.aload_n 0, 1) := by decide +kernel
theorem dX0_reachGivers_29 : decode cX0_reachGivers 29 = .ok (.getfield 18, 3) := by decide +kernel
theorem dX0_reachGivers_32 : decode cX0_reachGivers 32 = .ok (.iload_n 2, 1) := by decide +kernel
theorem dX0_reachGivers_33 : decode cX0_reachGivers 33 = .ok (.bipush 10, 2) := by decide +kernel
theorem dX0_reachGivers_35 : decode cX0_reachGivers 35 = .ok (.imul, 1) := by decide +kernel
theorem dX0_reachGivers_36 : decode cX0_reachGivers 36 = .ok (.iload_n 3, 1) := by decide +kernel
theorem dX0_reachGivers_37 : decode cX0_reachGivers 37 = .ok (.iadd, 1) := by decide +kernel
theorem dX0_reachGivers_38 : decode cX0_reachGivers 38 = .ok (.iaload, 1) := by decide +kernel
theorem dX0_reachGivers_39 : decode cX0_reachGivers 39 = .ok (.isub, 1) := by decide +kernel
theorem dX0_reachGivers_40 : decode cX0_reachGivers 40 = .ok (.istore 4, 2) := by decide +kernel
theorem dX0_reachGivers_42 : decode cX0_reachGivers 42 = .ok (.aload_n 0, 1) := by decide +kernel
theorem dX0_reachGivers_43 : decode cX0_reachGivers 43 = .ok (.getfield 21, 3) := by decide +kernel
theorem dX0_reachGivers_46 : decode cX0_reachGivers 46 = .ok (.iload_n 2, 1) := by decide +kernel
theorem dX0_reachGivers_47 : decode cX0_reachGivers 47 = .ok (.bipush 10, 2) := by decide +kernel
theorem dX0_reachGivers_49 : decode cX0_reachGivers 49 = .ok (.imul, 1) := by decide +kernel
theorem dX0_reachGivers_50 : decode cX0_reachGivers 50 = .ok (.iload_n 3, 1) := by decide +kernel
theorem dX0_reachGivers_51 : decode cX0_reachGivers 51 = .ok (.iadd, 1) := by decide +kernel
theorem dX0_reachGivers_52 : decode cX0_reachGivers 52 = .ok (.iaload, 1) := by decide +kernel
theorem dX0_reachGivers_53 : decode cX0_reachGivers 53 = .ok (.ifCond .le 31, 3) := by decide +kernel
theorem dX0_reachGivers_56 : decode cX0_reachGivers 56 = .ok (.iload 4, 2) := by decide +kernel
theorem dX0_reachGivers_58 : decode cX0_reachGivers 58 = .ok (.aload_n 0, 1) := by decide +kernel
theorem dX0_reachGivers_59 : decode cX0_reachGivers 59 = .ok (.getfield 30, 3) := by decide +kernel
theorem dX0_reachGivers_62 : decode cX0_reachGivers 62 = .ok (.iload_n 2, 1) := by decide +kernel
theorem dX0_reachGivers_63 : decode cX0_reachGivers 63 = .ok (.iaload, 1) := by decide +kernel
theorem dX0_reachGivers_64 : decode cX0_reachGivers 64 = .ok (.if_icmp .ge 20, 3) := by decide +kernel
theorem dX0_reachGivers_67 : decode cX0_reachGivers 67 = .ok (.aload_n 0, 1) := by decide +kernel
theorem dX0_reachGivers_68 : decode cX0_reachGivers 68 = .ok (.getfield 30, 3) := by decide +kernel
theorem dX0_reachGivers_71 : decode cX0_reachGivers 71 = .ok (.iload_n 2, 1) := by decide +kernel
theorem dX0_reachGivers_72 : decode cX0_reachGivers 72 = .ok (.iload 4, 2) := by decide +kernel
theorem dX0_reachGivers_74 : decode cX0_reachGivers 74 = .ok (.iastore, 1) := by decide +kernel
theorem dX0_reachGivers_75 : decode cX0_reachGivers 75 = .ok (.aload_n 0, 1) := by decide +kernel
theorem dX0_reachGivers_76 : decode cX0_reachGivers 76 = .ok (.getfield 39, 3) := by decide +kernel
theorem dX0_reachGivers_79 : decode cX0_reachGivers 79 = .ok (.iload_n 2, 1) := by decide +kernel
theorem dX0_reachGivers_80 : decode cX0_reachGivers 80 = .ok (.iload_n 3, 1) := by decide +kernel
theorem dX0_reachGivers_81 : decode cX0_reachGivers 81 = .ok (.iastore, 1) := by decide +kernel
theorem dX0_reachGivers_82 : decode cX0_reachGivers 82 = .ok (.iconst 1, 1) := by decide +kernel
theorem dX0_reachGivers_83 : decode cX0_reachGivers 83 = .ok (.istore_n 1, 1) := by decide +kernel
theorem dX0_reachGivers_84 : decode cX0_reachGivers 84 = .ok (.iinc 3 1, 3) := by decide +kernel
theorem dX0_reachGivers_87 : decode cX0_reachGivers 87 = .ok (.goto (-73), 3) := by decide +kernel
theorem dX0_reachGivers_90 : decode cX0_reachGivers 90 = .ok (.iinc 2 1, 3) := by decide +kernel
theorem dX0_reachGivers_93 : decode cX0_reachGivers 93 = .ok (.goto (-89), 3) := by decide +kernel
theorem dX0_reachGivers_96 : decode cX0_reachGivers 96 = .ok (.iload_n 1, 1) := by decide +kernel
theorem dX0_reachGivers_97 : decode cX0_reachGivers 97 = .ok (.ireturn, 1) := by decide +kernel
theorem dX0_cheapestUnmet_0 : decode cX0_cheapestUnmet 0 = .ok (.iconst (-1), 1) := by decide +kernel
theorem dX0_cheapestUnmet_1 : decode cX0_cheapestUnmet 1 = .ok (.istore_n 1, 1) := by decide +kernel
theorem dX0_cheapestUnmet_2 : decode cX0_cheapestUnmet 2 = .ok (.iconst 0, 1) := by decide +kernel
theorem dX0_cheapestUnmet_3 : decode cX0_cheapestUnmet 3 = .ok (.istore_n 2, 1) := by decide +kernel
theorem dX0_cheapestUnmet_4 : decode cX0_cheapestUnmet 4 = .ok (.iload_n 2, 1) := by decide +kernel
theorem dX0_cheapestUnmet_5 : decode cX0_cheapestUnmet 5 = .ok (.aload_n 0, 1) := by decide +kernel
theorem dX0_cheapestUnmet_6 : decode cX0_cheapestUnmet 6 = .ok (.getfield 48, 3) := by decide +kernel
theorem dX0_cheapestUnmet_9 : decode cX0_cheapestUnmet 9 = .ok (.if_icmp .ge 60, 3) := by decide +kernel
theorem dX0_cheapestUnmet_12 : decode cX0_cheapestUnmet 12 = .ok (.aload_n 0, 1) := by decide +kernel
theorem dX0_cheapestUnmet_13 : decode cX0_cheapestUnmet 13 = .ok (.getfield 27, 3) := by decide +kernel
theorem dX0_cheapestUnmet_16 : decode cX0_cheapestUnmet 16 = .ok (.iload_n 2, 1) := by decide +kernel
theorem dX0_cheapestUnmet_17 : decode cX0_cheapestUnmet 17 = .ok (.iaload, 1) := by decide +kernel
theorem dX0_cheapestUnmet_18 : decode cX0_cheapestUnmet 18 = .ok (.ifCond .le 18, 3) := by decide +kernel
theorem dX0_cheapestUnmet_21 : decode cX0_cheapestUnmet 21 = .ok (.aload_n 0, 1) := by decide +kernel
theorem dX0_cheapestUnmet_22 : decode cX0_cheapestUnmet 22 = .ok (.getfield 33, 3) := by decide +kernel
theorem dX0_cheapestUnmet_25 : decode cX0_cheapestUnmet 25 = .ok (.iload_n 2, 1) := by decide +kernel
theorem dX0_cheapestUnmet_26 : decode cX0_cheapestUnmet 26 = .ok (.iaload, 1) := by decide +kernel
theorem dX0_cheapestUnmet_27 : decode cX0_cheapestUnmet 27 = .ok (.ldc 75, 2) := by decide +kernel
theorem dX0_cheapestUnmet_29 : decode cX0_cheapestUnmet 29 = .ok (.if_icmp .ge 7, 3) := by decide +kernel
theorem dX0_cheapestUnmet_32 : decode cX0_cheapestUnmet 32 = .ok (.iconst 1, 1) := by decide +kernel
theorem dX0_cheapestUnmet_33 : decode cX0_cheapestUnmet 33 = .ok (.goto 4, 3) := by decide +kernel
theorem dX0_cheapestUnmet_36 : decode cX0_cheapestUnmet 36 = .ok (.iconst 0, 1) := by decide +kernel
theorem dX0_cheapestUnmet_37 : decode cX0_cheapestUnmet 37 = .ok (.istore_n 3, 1) := by decide +kernel
theorem dX0_cheapestUnmet_38 : decode cX0_cheapestUnmet 38 = .ok (.iload_n 3, 1) := by decide +kernel
theorem dX0_cheapestUnmet_39 : decode cX0_cheapestUnmet 39 = .ok (.ifCond .eq 24, 3) := by decide +kernel
theorem dX0_cheapestUnmet_42 : decode cX0_cheapestUnmet 42 = .ok (.iload_n 1, 1) := by decide +kernel
theorem dX0_cheapestUnmet_43 : decode cX0_cheapestUnmet 43 = .ok (.ifCond .lt 18, 3) := by decide +kernel
theorem dX0_cheapestUnmet_46 : decode cX0_cheapestUnmet 46 = .ok (.aload_n 0, 1) := by decide +kernel
theorem dX0_cheapestUnmet_47 : decode cX0_cheapestUnmet 47 = .ok (.getfield 33, 3) := by decide +kernel
theorem dX0_cheapestUnmet_50 : decode cX0_cheapestUnmet 50 = .ok (.iload_n 2, 1) := by decide +kernel
theorem dX0_cheapestUnmet_51 : decode cX0_cheapestUnmet 51 = .ok (.iaload, 1) := by decide +kernel
theorem dX0_cheapestUnmet_52 : decode cX0_cheapestUnmet 52 = .ok (.aload_n 0, 1) := by decide +kernel
theorem dX0_cheapestUnmet_53 : decode cX0_cheapestUnmet 53 = .ok (.getfield 33, 3) := by decide +kernel
theorem dX0_cheapestUnmet_56 : decode cX0_cheapestUnmet 56 = .ok (.iload_n 1, 1) := by decide +kernel
theorem dX0_cheapestUnmet_57 : decode cX0_cheapestUnmet 57 = .ok (.iaload, 1) := by decide +kernel
theorem dX0_cheapestUnmet_58 : decode cX0_cheapestUnmet 58 = .ok (.if_icmp .ge 5, 3) := by decide +kernel
theorem dX0_cheapestUnmet_61 : decode cX0_cheapestUnmet 61 = .ok (.iload_n 2, 1) := by decide +kernel
theorem dX0_cheapestUnmet_62 : decode cX0_cheapestUnmet 62 = .ok (.istore_n 1, 1) := by decide +kernel
theorem dX0_cheapestUnmet_63 : decode cX0_cheapestUnmet 63 = .ok (.iinc 2 1, 3) := by decide +kernel
theorem dX0_cheapestUnmet_66 : decode cX0_cheapestUnmet 66 = .ok (.goto (-62), 3) := by decide +kernel
theorem dX0_cheapestUnmet_69 : decode cX0_cheapestUnmet 69 = .ok (.iload_n 1, 1) := by decide +kernel
theorem dX0_cheapestUnmet_70 : decode cX0_cheapestUnmet 70 = .ok (.ireturn, 1) := by decide +kernel
theorem dX0_carryAlong_0 : decode cX0_carryAlong 0 = .ok (.aload_n 0, 1) := by decide +kernel
theorem dX0_carryAlong_1 : decode cX0_carryAlong 1 = .ok (.iload_n 1, 1) := by decide +kernel
theorem dX0_carryAlong_2 : decode cX0_carryAlong 2 = .ok (.invokevirtual 83, 3) := by decide +kernel
theorem dX0_carryAlong_5 : decode cX0_carryAlong 5 = .ok (.istore_n 2, 1) := by decide +kernel
theorem dX0_carryAlong_6 : decode cX0_carryAlong 6 = .ok (.aload_n 0, 1) := by decide +kernel
theorem dX0_carryAlong_7 : decode cX0_carryAlong 7 = .ok (.getfield 27, 3) := by decide +kernel
theorem dX0_carryAlong_10 : decode cX0_carryAlong 10 = .ok (.iload_n 1, 1) := by decide +kernel
theorem dX0_carryAlong_11 : decode cX0_carryAlong 11 = .ok (.dup2, 1) := by decide +kernel
theorem dX0_carryAlong_12 : decode cX0_carryAlong 12 = .ok (.iaload, 1) := by decide +kernel
theorem dX0_carryAlong_13 : decode cX0_carryAlong 13 = .ok (.iload_n 2, 1) := by decide +kernel
theorem dX0_carryAlong_14 : decode cX0_carryAlong 14 = .ok (.isub, 1) := by decide +kernel
theorem dX0_carryAlong_15 : decode cX0_carryAlong 15 = .ok (.iastore, 1) := by decide +kernel
theorem dX0_carryAlong_16 : decode cX0_carryAlong 16 = .ok (.iload_n 1, 1) := by decide +kernel
theorem dX0_carryAlong_17 : decode cX0_carryAlong 17 = .ok (.istore_n 3, 1) := by decide +kernel
theorem dX0_carryAlong_18 : decode cX0_carryAlong 18 = .ok (.iconst 0, 1) := by decide +kernel
theorem dX0_carryAlong_19 : decode cX0_carryAlong 19 = .ok (.istore 4, 2) := by decide +kernel
theorem dX0_carryAlong_21 : decode cX0_carryAlong 21 = .ok (.iload 4, 2) := by decide +kernel
theorem dX0_carryAlong_23 : decode cX0_carryAlong 23 = .ok (.bipush 10, 2) := by decide +kernel
theorem dX0_carryAlong_25 : decode cX0_carryAlong 25 = .ok (.if_icmp .ge 87, 3) := by decide +kernel
theorem dX0_carryAlong_28 : decode cX0_carryAlong 28 = .ok (.iload_n 3, 1) := by decide +kernel
theorem dX0_carryAlong_29 : decode cX0_carryAlong 29 = .ok (.ifCond .lt 83, 3) := by decide +kernel
theorem dX0_carryAlong_32 : decode cX0_carryAlong 32 = .ok (.aload_n 0, 1) := by decide +kernel
theorem dX0_carryAlong_33 : decode cX0_carryAlong 33 = .ok (.getfield 36, 3) := by decide +kernel
theorem dX0_carryAlong_36 : decode cX0_carryAlong 36 = .ok (.iload_n 3, 1) := by decide +kernel
theorem dX0_carryAlong_37 : decode cX0_carryAlong 37 = .ok (.iaload, 1) := by decide +kernel
theorem dX0_carryAlong_38 : decode cX0_carryAlong 38 = .ok (.istore 5, 2) := by decide +kernel
theorem dX0_carryAlong_40 : decode cX0_carryAlong 40 = .ok (.iload 5, 2) := by decide +kernel
theorem dX0_carryAlong_42 : decode cX0_carryAlong 42 = .ok (.ifCond .ge 6, 3) := by decide +kernel
theorem dX0_carryAlong_45 : decode cX0_carryAlong 45 = .ok (.goto 67, 3) := by decide +kernel
theorem dX0_carryAlong_48 : decode cX0_carryAlong 48 = .ok (.aload_n 0, 1) := by decide +kernel
theorem dX0_carryAlong_49 : decode cX0_carryAlong 49 = .ok (.getfield 21, 3) := by decide +kernel
theorem dX0_carryAlong_52 : decode cX0_carryAlong 52 = .ok (.iload 5, 2) := by decide +kernel
theorem dX0_carryAlong_54 : decode cX0_carryAlong 54 = .ok (.bipush 10, 2) := by decide +kernel
theorem dX0_carryAlong_56 : decode cX0_carryAlong 56 = .ok (.imul, 1) := by decide +kernel
theorem dX0_carryAlong_57 : decode cX0_carryAlong 57 = .ok (.iload_n 3, 1) := by decide +kernel
theorem dX0_carryAlong_58 : decode cX0_carryAlong 58 = .ok (.iadd, 1) := by decide +kernel
theorem dX0_carryAlong_59 : decode cX0_carryAlong 59 = .ok (.dup2, 1) := by decide +kernel
theorem dX0_carryAlong_60 : decode cX0_carryAlong 60 = .ok (.iaload, 1) := by decide +kernel
theorem dX0_carryAlong_61 : decode cX0_carryAlong 61 = .ok (.iload_n 2, 1) := by decide +kernel
theorem dX0_carryAlong_62 : decode cX0_carryAlong 62 = .ok (.iadd, 1) := by decide +kernel
theorem dX0_carryAlong_63 : decode cX0_carryAlong 63 = .ok (.iastore, 1) := by decide +kernel
theorem dX0_carryAlong_64 : decode cX0_carryAlong 64 = .ok (.aload_n 0, 1) := by decide +kernel
theorem dX0_carryAlong_65 : decode cX0_carryAlong 65 = .ok (.getfield 39, 3) := by decide +kernel
theorem dX0_carryAlong_68 : decode cX0_carryAlong 68 = .ok (.iload 5, 2) := by decide +kernel
theorem dX0_carryAlong_70 : decode cX0_carryAlong 70 = .ok (.iaload, 1) := by decide +kernel
theorem dX0_carryAlong_71 : decode cX0_carryAlong 71 = .ok (.istore_n 3, 1) := by decide +kernel
theorem dX0_carryAlong_72 : decode cX0_carryAlong 72 = .ok (.iload_n 3, 1) := by decide +kernel
theorem dX0_carryAlong_73 : decode cX0_carryAlong 73 = .ok (.ifCond .lt 22, 3) := by decide +kernel
theorem dX0_carryAlong_76 : decode cX0_carryAlong 76 = .ok (.aload_n 0, 1) := by decide +kernel
theorem dX0_carryAlong_77 : decode cX0_carryAlong 77 = .ok (.getfield 21, 3) := by decide +kernel
theorem dX0_carryAlong_80 : decode cX0_carryAlong 80 = .ok (.iload 5, 2) := by decide +kernel
theorem dX0_carryAlong_82 : decode cX0_carryAlong 82 = .ok (.bipush 10, 2) := by decide +kernel
theorem dX0_carryAlong_84 : decode cX0_carryAlong 84 = .ok (.imul, 1) := by decide +kernel
theorem dX0_carryAlong_85 : decode cX0_carryAlong 85 = .ok (.iload_n 3, 1) := by decide +kernel
theorem dX0_carryAlong_86 : decode cX0_carryAlong 86 = .ok (.iadd, 1) := by decide +kernel
theorem dX0_carryAlong_87 : decode cX0_carryAlong 87 = .ok (.dup2, 1) := by decide +kernel
theorem dX0_carryAlong_88 : decode cX0_carryAlong 88 = .ok (.iaload, 1) := by decide +kernel
theorem dX0_carryAlong_89 : decode cX0_carryAlong 89 = .ok (.iload_n 2, 1) := by decide +kernel
theorem dX0_carryAlong_90 : decode cX0_carryAlong 90 = .ok (.isub, 1) := by decide +kernel
theorem dX0_carryAlong_91 : decode cX0_carryAlong 91 = .ok (.iastore, 1) := by decide +kernel
theorem dX0_carryAlong_92 : decode cX0_carryAlong 92 = .ok (.goto 14, 3) := by decide +kernel
theorem dX0_carryAlong_95 : decode cX0_carryAlong 95 = .ok (.aload_n 0, 1) := by decide +kernel
theorem dX0_carryAlong_96 : decode cX0_carryAlong 96 = .ok (.getfield 24, 3) := by decide +kernel
theorem dX0_carryAlong_99 : decode cX0_carryAlong 99 = .ok (.iload 5, 2) := by decide +kernel
theorem dX0_carryAlong_101 : decode cX0_carryAlong 101 = .ok (.dup2, 1) := by decide +kernel
theorem dX0_carryAlong_102 : decode cX0_carryAlong 102 = .ok (.iaload, 1) := by decide +kernel
theorem dX0_carryAlong_103 : decode cX0_carryAlong 103 = .ok (.iload_n 2, 1) := by decide +kernel
theorem dX0_carryAlong_104 : decode cX0_carryAlong 104 = .ok (.isub, 1) := by decide +kernel
theorem dX0_carryAlong_105 : decode cX0_carryAlong 105 = .ok (.iastore, 1) := by decide +kernel
theorem dX0_carryAlong_106 : decode cX0_carryAlong 106 = .ok (.iinc 4 1, 3) := by decide +kernel
theorem dX0_carryAlong_109 : decode cX0_carryAlong 109 = .ok (.goto (-88), 3) := by decide +kernel
theorem dX0_carryAlong_112 : decode cX0_carryAlong 112 = .ok (.iload_n 2, 1) := by decide +kernel
theorem dX0_carryAlong_113 : decode cX0_carryAlong 113 = .ok (.ireturn, 1) := by decide +kernel
theorem dX0_amountAlong_0 : decode cX0_amountAlong 0 = .ok (.aload_n 0, 1) := by decide +kernel
theorem dX0_amountAlong_1 : decode cX0_amountAlong 1 = .ok (.getfield 27, 3) := by decide +kernel
theorem dX0_amountAlong_4 : decode cX0_amountAlong 4 = .ok (.iload_n 1, 1) := by decide +kernel
theorem dX0_amountAlong_5 : decode cX0_amountAlong 5 = .ok (.iaload, 1) := by decide +kernel
theorem dX0_amountAlong_6 : decode cX0_amountAlong 6 = .ok (.istore_n 2, 1) := by decide +kernel
theorem dX0_amountAlong_7 : decode cX0_amountAlong 7 = .ok (.iload_n 1, 1) := by decide +kernel
theorem dX0_amountAlong_8 : decode cX0_amountAlong 8 = .ok (.istore_n 3, 1) := by decide +kernel
theorem dX0_amountAlong_9 : decode cX0_amountAlong 9 = .ok (.iconst 0, 1) := by decide +kernel
theorem dX0_amountAlong_10 : decode cX0_amountAlong 10 = .ok (.istore 4, 2) := by decide +kernel
theorem dX0_amountAlong_12 : decode cX0_amountAlong 12 = .ok (.iload 4, 2) := by decide +kernel
theorem dX0_amountAlong_14 : decode cX0_amountAlong 14 = .ok (.bipush 10, 2) := by decide +kernel
theorem dX0_amountAlong_16 : decode cX0_amountAlong 16 = .ok (.if_icmp .ge 68, 3) := by decide +kernel
theorem dX0_amountAlong_19 : decode cX0_amountAlong 19 = .ok (.iload_n 3, 1) := by decide +kernel
theorem dX0_amountAlong_20 : decode cX0_amountAlong 20 = .ok (.ifCond .lt 64, 3) := by decide +kernel
theorem dX0_amountAlong_23 : decode cX0_amountAlong 23 = .ok (.aload_n 0, 1) := by decide +kernel
theorem dX0_amountAlong_24 : decode cX0_amountAlong 24 = .ok (.getfield 36, 3) := by decide +kernel
theorem dX0_amountAlong_27 : decode cX0_amountAlong 27 = .ok (.iload_n 3, 1) := by decide +kernel
theorem dX0_amountAlong_28 : decode cX0_amountAlong 28 = .ok (.iaload, 1) := by decide +kernel
theorem dX0_amountAlong_29 : decode cX0_amountAlong 29 = .ok (.istore 5, 2) := by decide +kernel
theorem dX0_amountAlong_31 : decode cX0_amountAlong 31 = .ok (.iload 5, 2) := by decide +kernel
theorem dX0_amountAlong_33 : decode cX0_amountAlong 33 = .ok (.ifCond .ge 6, 3) := by decide +kernel
theorem dX0_amountAlong_36 : decode cX0_amountAlong 36 = .ok (.goto 48, 3) := by decide +kernel
theorem dX0_amountAlong_39 : decode cX0_amountAlong 39 = .ok (.aload_n 0, 1) := by decide +kernel
theorem dX0_amountAlong_40 : decode cX0_amountAlong 40 = .ok (.getfield 39, 3) := by decide +kernel
theorem dX0_amountAlong_43 : decode cX0_amountAlong 43 = .ok (.iload 5, 2) := by decide +kernel
theorem dX0_amountAlong_45 : decode cX0_amountAlong 45 = .ok (.iaload, 1) := by decide +kernel
theorem dX0_amountAlong_46 : decode cX0_amountAlong 46 = .ok (.istore_n 3, 1) := by decide +kernel
theorem dX0_amountAlong_47 : decode cX0_amountAlong 47 = .ok (.iload_n 2, 1) := by decide +kernel
theorem dX0_amountAlong_48 : decode cX0_amountAlong 48 = .ok (.iload_n 3, 1) := by decide +kernel
theorem dX0_amountAlong_49 : decode cX0_amountAlong 49 = .ok (.ifCond .lt 18, 3) := by decide +kernel
theorem dX0_amountAlong_52 : decode cX0_amountAlong 52 = .ok (.aload_n 0, 1) := by decide +kernel
theorem dX0_amountAlong_53 : decode cX0_amountAlong 53 = .ok (.getfield 21, 3) := by decide +kernel
theorem dX0_amountAlong_56 : decode cX0_amountAlong 56 = .ok (.iload 5, 2) := by decide +kernel
theorem dX0_amountAlong_58 : decode cX0_amountAlong 58 = .ok (.bipush 10, 2) := by decide +kernel
theorem dX0_amountAlong_60 : decode cX0_amountAlong 60 = .ok (.imul, 1) := by decide +kernel
theorem dX0_amountAlong_61 : decode cX0_amountAlong 61 = .ok (.iload_n 3, 1) := by decide +kernel
theorem dX0_amountAlong_62 : decode cX0_amountAlong 62 = .ok (.iadd, 1) := by decide +kernel
theorem dX0_amountAlong_63 : decode cX0_amountAlong 63 = .ok (.iaload, 1) := by decide +kernel
theorem dX0_amountAlong_64 : decode cX0_amountAlong 64 = .ok (.goto 10, 3) := by decide +kernel
theorem dX0_amountAlong_67 : decode cX0_amountAlong 67 = .ok (.aload_n 0, 1) := by decide +kernel
theorem dX0_amountAlong_68 : decode cX0_amountAlong 68 = .ok (.getfield 24, 3) := by decide +kernel
theorem dX0_amountAlong_71 : decode cX0_amountAlong 71 = .ok (.iload 5, 2) := by decide +kernel
theorem dX0_amountAlong_73 : decode cX0_amountAlong 73 = .ok (.iaload, 1) := by decide +kernel
theorem dX0_amountAlong_74 : decode cX0_amountAlong 74 = .ok (.invokestatic 42, 3) := by decide +kernel
theorem dX0_amountAlong_77 : decode cX0_amountAlong 77 = .ok (.istore_n 2, 1) := by decide +kernel
theorem dX0_amountAlong_78 : decode cX0_amountAlong 78 = .ok (.iinc 4 1, 3) := by decide +kernel
theorem dX0_amountAlong_81 : decode cX0_amountAlong 81 = .ok (.goto (-69), 3) := by decide +kernel
theorem dX0_amountAlong_84 : decode cX0_amountAlong 84 = .ok (.iload_n 2, 1) := by decide +kernel
theorem dX0_amountAlong_85 : decode cX0_amountAlong 85 = .ok (.ireturn, 1) := by decide +kernel
theorem dX1_init_0 : decode cX1_init 0 = .ok (.aload_n 0, 1) := by decide +kernel
theorem dX1_init_1 : decode cX1_init 1 = .ok (.invokespecial 3, 3) := by decide +kernel
theorem dX1_init_4 : decode cX1_init 4 = .ok (.aload_n 0, 1) := by decide +kernel
theorem dX1_init_5 : decode cX1_init 5 = .ok (.sipush 600, 3) := by decide +kernel
theorem dX1_init_8 : decode cX1_init 8 = .ok (.newarray .int, 2) := by decide +kernel
theorem dX1_init_10 : decode cX1_init 10 = .ok (.putfield 9, 3) := by decide +kernel
theorem dX1_init_13 : decode cX1_init 13 = .ok (.aload_n 0, 1) := by decide +kernel
theorem dX1_init_14 : decode cX1_init 14 = .ok (.bipush 10, 2) := by decide +kernel
theorem dX1_init_16 : decode cX1_init 16 = .ok (.newarray .int, 2) := by decide +kernel
theorem dX1_init_18 : decode cX1_init 18 = .ok (.putfield 15, 3) := by decide +kernel
theorem dX1_init_21 : decode cX1_init 21 = .ok (.aload_n 0, 1) := by decide +kernel
theorem dX1_init_22 : decode cX1_init 22 = .ok (.bipush 10, 2) := by decide +kernel
theorem dX1_init_24 : decode cX1_init 24 = .ok (.newarray .int, 2) := by decide +kernel
theorem dX1_init_26 : decode cX1_init 26 = .ok (.putfield 18, 3) := by decide +kernel
theorem dX1_init_29 : decode cX1_init 29 = .ok (.aload_n 0, 1) := by decide +kernel
theorem dX1_init_30 : decode cX1_init 30 = .ok (.bipush 10, 2) := by decide +kernel
theorem dX1_init_32 : decode cX1_init 32 = .ok (.newarray .int, 2) := by decide +kernel
theorem dX1_init_34 : decode cX1_init 34 = .ok (.putfield 21, 3) := by decide +kernel
theorem dX1_init_37 : decode cX1_init 37 = .ok (.return_, 1) := by decide +kernel
theorem dX1_debt_0 : decode cX1_debt 0 = .ok (.aload_n 0, 1) := by decide +kernel
theorem dX1_debt_1 : decode cX1_debt 1 = .ok (.getfield 9, 3) := by decide +kernel
theorem dX1_debt_4 : decode cX1_debt 4 = .ok (.iload_n 1, 1) := by decide +kernel
theorem dX1_debt_5 : decode cX1_debt 5 = .ok (.bipush 10, 2) := by decide +kernel
theorem dX1_debt_7 : decode cX1_debt 7 = .ok (.imul, 1) := by decide +kernel
theorem dX1_debt_8 : decode cX1_debt 8 = .ok (.iload_n 2, 1) := by decide +kernel
theorem dX1_debt_9 : decode cX1_debt 9 = .ok (.iadd, 1) := by decide +kernel
theorem dX1_debt_10 : decode cX1_debt 10 = .ok (.bipush 10, 2) := by decide +kernel
theorem dX1_debt_12 : decode cX1_debt 12 = .ok (.imul, 1) := by decide +kernel
theorem dX1_debt_13 : decode cX1_debt 13 = .ok (.iload_n 3, 1) := by decide +kernel
theorem dX1_debt_14 : decode cX1_debt 14 = .ok (.iadd, 1) := by decide +kernel
theorem dX1_debt_15 : decode cX1_debt 15 = .ok (.iaload, 1) := by decide +kernel
theorem dX1_debt_16 : decode cX1_debt 16 = .ok (.ireturn, 1) := by decide +kernel
theorem dX1_add_0 : decode cX1_add 0 = .ok (.aload_n 0, 1) := by decide +kernel
theorem dX1_add_1 : decode cX1_add 1 = .ok (.getfield 9, 3) := by decide +kernel
theorem dX1_add_4 : decode cX1_add 4 = .ok (.iload_n 1, 1) := by decide +kernel
theorem dX1_add_5 : decode cX1_add 5 = .ok (.bipush 10, 2) := by decide +kernel
theorem dX1_add_7 : decode cX1_add 7 = .ok (.imul, 1) := by decide +kernel
theorem dX1_add_8 : decode cX1_add 8 = .ok (.iload_n 2, 1) := by decide +kernel
theorem dX1_add_9 : decode cX1_add 9 = .ok (.iadd, 1) := by decide +kernel
theorem dX1_add_10 : decode cX1_add 10 = .ok (.bipush 10, 2) := by decide +kernel
theorem dX1_add_12 : decode cX1_add 12 = .ok (.imul, 1) := by decide +kernel
theorem dX1_add_13 : decode cX1_add 13 = .ok (.iload_n 3, 1) := by decide +kernel
theorem dX1_add_14 : decode cX1_add 14 = .ok (.iadd, 1) := by decide +kernel
theorem dX1_add_15 : decode cX1_add 15 = .ok (.dup2, 1) := by decide +kernel
theorem dX1_add_16 : decode cX1_add 16 = .ok (.iaload, 1) := by decide +kernel
theorem dX1_add_17 : decode cX1_add 17 = .ok (.iload 4, 2) := by decide +kernel
theorem dX1_add_19 : decode cX1_add 19 = .ok (.iadd, 1) := by decide +kernel
theorem dX1_add_20 : decode cX1_add 20 = .ok (.iastore, 1) := by decide +kernel
theorem dX1_add_21 : decode cX1_add 21 = .ok (.return_, 1) := by decide +kernel
theorem dX1_ringHouse_0 : decode cX1_ringHouse 0 = .ok (.iload_n 1, 1) := by decide +kernel
theorem dX1_ringHouse_1 : decode cX1_ringHouse 1 = .ok (.ifCond .lt 20, 3) := by decide +kernel
theorem dX1_ringHouse_4 : decode cX1_ringHouse 4 = .ok (.iload_n 1, 1) := by decide +kernel
theorem dX1_ringHouse_5 : decode cX1_ringHouse 5 = .ok (.aload_n 0, 1) := by decide +kernel
theorem dX1_ringHouse_6 : decode cX1_ringHouse 6 = .ok (.getfield 24, 3) := by decide +kernel
theorem dX1_ringHouse_9 : decode cX1_ringHouse 9 = .ok (.if_icmp .ge 12, 3) := by decide +kernel
theorem dX1_ringHouse_12 : decode cX1_ringHouse 12 = .ok (.aload_n 0, 1) := by decide +kernel
theorem dX1_ringHouse_13 : decode cX1_ringHouse 13 = .ok (.getfield 15, 3) := by decide +kernel
theorem dX1_ringHouse_16 : decode cX1_ringHouse 16 = .ok (.iload_n 1, 1) := by decide +kernel
theorem dX1_ringHouse_17 : decode cX1_ringHouse 17 = .ok (.iaload, 1) := by decide +kernel
theorem dX1_ringHouse_18 : decode cX1_ringHouse 18 = .ok (.goto 5, 3) := by decide +kernel
theorem dX1_ringHouse_21 : decode cX1_ringHouse 21 = .ok (.bipush (-9), 2) := by decide +kernel
theorem dX1_ringHouse_23 : decode cX1_ringHouse 23 = .ok (.ireturn, 1) := by decide +kernel
theorem dX1_takeOff_0 : decode cX1_takeOff 0 = .ok (.iconst 0, 1) := by decide +kernel
theorem dX1_takeOff_1 : decode cX1_takeOff 1 = .ok (.istore_n 2, 1) := by decide +kernel
theorem dX1_takeOff_2 : decode cX1_takeOff 2 = .ok (.iconst 0, 1) := by decide +kernel
theorem dX1_takeOff_3 : decode cX1_takeOff 3 = .ok (.istore_n 3, 1) := by decide +kernel
theorem dX1_takeOff_4 : decode cX1_takeOff 4 = .ok (.iload_n 3, 1) := by decide +kernel
theorem dX1_takeOff_5 : decode cX1_takeOff 5 = .ok (.bipush 100, 2) := by decide +kernel
theorem dX1_takeOff_7 : decode cX1_takeOff 7 = .ok (.if_icmp .ge 32, 3) := by decide +kernel
theorem dX1_takeOff_10 : decode cX1_takeOff 10 = .ok (.aload_n 0, 1) := by decide +kernel
theorem dX1_takeOff_11 : decode cX1_takeOff 11 = .ok (.iload_n 1, 1) := by decide +kernel
theorem dX1_takeOff_12 : decode cX1_takeOff 12 = .ok (.invokevirtual 28, 3) := by decide +kernel
theorem dX1_takeOff_15 : decode cX1_takeOff 15 = .ok (.aload_n 0, 1) := by decide +kernel
theorem dX1_takeOff_16 : decode cX1_takeOff 16 = .ok (.getfield 24, 3) := by decide +kernel
theorem dX1_takeOff_19 : decode cX1_takeOff 19 = .ok (.ifCond .ne 6, 3) := by decide +kernel
theorem dX1_takeOff_22 : decode cX1_takeOff 22 = .ok (.goto 17, 3) := by decide +kernel
theorem dX1_takeOff_25 : decode cX1_takeOff 25 = .ok (.aload_n 0, 1) := by decide +kernel
theorem dX1_takeOff_26 : decode cX1_takeOff 26 = .ok (.iload_n 1, 1) := by decide +kernel
theorem dX1_takeOff_27 : decode cX1_takeOff 27 = .ok (.invokevirtual 32, 3) := by decide +kernel
theorem dX1_takeOff_30 : decode cX1_takeOff 30 = .ok (.iinc 2 1, 3) := by decide +kernel
theorem dX1_takeOff_33 : decode cX1_takeOff 33 = .ok (.iinc 3 1, 3) := by decide +kernel
theorem dX1_takeOff_36 : decode cX1_takeOff 36 = .ok (.goto (-32), 3) := by decide +kernel
theorem dX1_takeOff_39 : decode cX1_takeOff 39 = .ok (.iload_n 2, 1) := by decide +kernel
theorem dX1_takeOff_40 : decode cX1_takeOff 40 = .ok (.ireturn, 1) := by decide +kernel
theorem dX1_findFirstRing_0 : decode cX1_findFirstRing 0 = .ok (.aload_n 0, 1) := by decide +kernel
theorem dX1_findFirstRing_1 : decode cX1_findFirstRing 1 = .ok (.iconst 0, 1) := by decide +kernel
theorem dX1_findFirstRing_2 : decode cX1_findFirstRing 2 = .ok (.putfield 24, 3) := by decide +kernel
theorem dX1_findFirstRing_5 : decode cX1_findFirstRing 5 = .ok (.iconst 0, 1) := by decide +kernel
theorem dX1_findFirstRing_6 : decode cX1_findFirstRing 6 = .ok (.istore_n 2, 1) := by decide +kernel
theorem dX1_findFirstRing_7 : decode cX1_findFirstRing 7 = .ok (.iload_n 2, 1) := by decide +kernel
theorem dX1_findFirstRing_8 : decode cX1_findFirstRing 8 = .ok (.bipush 10, 2) := by decide +kernel
theorem dX1_findFirstRing_10 : decode cX1_findFirstRing 10 = .ok (.if_icmp .ge 48, 3) := by decide +kernel
theorem dX1_findFirstRing_13 : decode cX1_findFirstRing 13 = .ok (.aload_n 0, 1) := by decide +kernel
theorem dX1_findFirstRing_14 : decode cX1_findFirstRing 14 = .ok (.iload_n 1, 1) := by decide +kernel
theorem dX1_findFirstRing_15 : decode cX1_findFirstRing 15 = .ok (.iload_n 2, 1) := by decide +kernel
theorem dX1_findFirstRing_16 : decode cX1_findFirstRing 16 = .ok (.invokevirtual 35, 3) := by decide +kernel
theorem dX1_findFirstRing_19 : decode cX1_findFirstRing 19 = .ok (.aload_n 0, 1) := by decide +kernel
theorem dX1_findFirstRing_20 : decode cX1_findFirstRing 20 = .ok (.iload_n 1, 1) := by decide +kernel
theorem dX1_findFirstRing_21 : decode cX1_findFirstRing 21 = .ok (.iload_n 2, 1) := by decide +kernel
theorem dX1_findFirstRing_22 : decode cX1_findFirstRing 22 = .ok (.invokevirtual 39, 3) := by decide +kernel
theorem dX1_findFirstRing_25 : decode cX1_findFirstRing 25 = .ok (.istore_n 3, 1) := by decide +kernel
theorem dX1_findFirstRing_26 : decode cX1_findFirstRing 26 = .ok (.iload_n 3, 1) := by decide +kernel
theorem dX1_findFirstRing_27 : decode cX1_findFirstRing 27 = .ok (.ifCond .le 25, 3) := by decide +kernel
theorem dX1_findFirstRing_30 : decode cX1_findFirstRing 30 = .ok (.aload_n 0, 1) := by decide +kernel
theorem dX1_findFirstRing_31 : decode cX1_findFirstRing 31 = .ok (.getfield 24, 3) := by decide +kernel
theorem dX1_findFirstRing_34 : decode cX1_findFirstRing 34 = .ok (.ifCond .eq 11, 3) := by decide +kernel
theorem dX1_findFirstRing_37 : decode cX1_findFirstRing 37 = .ok (.iload_n 3, 1) := by decide +kernel
theorem dX1_findFirstRing_38 : decode cX1_findFirstRing 38 = .ok (.aload_n 0, 1) := by decide +kernel
theorem dX1_findFirstRing_39 : decode cX1_findFirstRing 39 = .ok (.getfield 24, 3) := by decide +kernel
theorem dX1_findFirstRing_42 : decode cX1_findFirstRing 42 = .ok (.if_icmp .ge 10, 3) := by decide +kernel
theorem dX1_findFirstRing_45 : decode cX1_findFirstRing 45 = .ok (.aload_n 0, 1) := by decide +kernel
theorem dX1_findFirstRing_46 : decode cX1_findFirstRing 46 = .ok (.iload_n 1, 1) := by decide +kernel
theorem dX1_findFirstRing_47 : decode cX1_findFirstRing 47 = .ok (.iload_n 2, 1) := by decide +kernel
theorem dX1_findFirstRing_48 : decode cX1_findFirstRing 48 = .ok (.iload_n 3, 1) := by decide +kernel
theorem dX1_findFirstRing_49 : decode cX1_findFirstRing 49 = .ok (.invokevirtual 43, 3) := by decide +kernel
theorem dX1_findFirstRing_52 : decode cX1_findFirstRing 52 = .ok (.iinc 2 1, 3) := by decide +kernel
theorem dX1_findFirstRing_55 : decode cX1_findFirstRing 55 = .ok (.goto (-48), 3) := by decide +kernel
theorem dX1_findFirstRing_58 : decode cX1_findFirstRing 58 = .ok (.return_, 1) := by decide +kernel
theorem dX1_spreadBack_0 : decode cX1_spreadBack 0 = .ok (.aload_n 0, 1) := by decide +kernel
theorem dX1_spreadBack_1 : decode cX1_spreadBack 1 = .ok (.getfield 18, 3) := by decide +kernel
theorem dX1_spreadBack_4 : decode cX1_spreadBack 4 = .ok (.iconst 0, 1) := by decide +kernel
theorem dX1_spreadBack_5 : decode cX1_spreadBack 5 = .ok (.invokestatic 47, 3) := by decide +kernel
theorem dX1_spreadBack_8 : decode cX1_spreadBack 8 = .ok (.aload_n 0, 1) := by decide +kernel
theorem dX1_spreadBack_9 : decode cX1_spreadBack 9 = .ok (.getfield 21, 3) := by decide +kernel
theorem dX1_spreadBack_12 : decode cX1_spreadBack 12 = .ok (.iconst 0, 1) := by decide +kernel
theorem dX1_spreadBack_13 : decode cX1_spreadBack 13 = .ok (.iload_n 2, 1) := by decide +kernel
theorem dX1_spreadBack_14 : decode cX1_spreadBack 14 = .ok (.iastore, 1) := by decide +kernel
theorem dX1_spreadBack_15 : decode cX1_spreadBack 15 = .ok (.iconst 1, 1) := by decide +kernel
theorem dX1_spreadBack_16 : decode cX1_spreadBack 16 = .ok (.istore_n 3, 1) := by decide +kernel
theorem dX1_spreadBack_17 : decode cX1_spreadBack 17 = .ok (.iconst 0, 1) := by decide +kernel
theorem dX1_spreadBack_18 : decode cX1_spreadBack 18 = .ok (.istore 4, 2) := by decide +kernel
theorem dX1_spreadBack_20 : decode cX1_spreadBack 20 = .ok (.iload 4, 2) := by decide +kernel
theorem dX1_spreadBack_22 : decode cX1_spreadBack 22 = .ok (.iload_n 3, 1) := by decide +kernel
theorem dX1_spreadBack_23 : decode cX1_spreadBack 23 = .ok (.if_icmp .ge 98, 3) := by decide +kernel
theorem dX1_spreadBack_26 : decode cX1_spreadBack 26 = .ok (.iload 4, 2) := by decide +kernel
theorem dX1_spreadBack_28 : decode cX1_spreadBack 28 = .ok (.bipush 10, 2) := by decide +kernel
theorem dX1_spreadBack_30 : decode cX1_spreadBack 30 = .ok (.if_icmp .ge 91, 3) := by decide +kernel
theorem dX1_spreadBack_33 : decode cX1_spreadBack 33 = .ok (.aload_n 0, 1) := by decide +kernel
theorem dX1_spreadBack_34 : decode cX1_spreadBack 34 = .ok (.getfield 21, 3) := by decide +kernel
theorem dX1_spreadBack_37 : decode cX1_spreadBack 37 = .ok (.iload 4, 2) := by decide +kernel
theorem dX1_spreadBack_39 : decode cX1_spreadBack 39 = .ok (.iaload, 1) := by decide +kernel
theorem dX1_spreadBack_40 : decode cX1_spreadBack 40 = .ok (.istore 5, 2) := by decide +kernel
theorem dX1_spreadBack_42 : decode cX1_spreadBack 42 = .ok (.iload_n 2, 1) := by decide +kernel
theorem dX1_spreadBack_43 : decode cX1_spreadBack 43 = .ok (.iconst 1, 1) := by decide +kernel
theorem dX1_spreadBack_44 : decode cX1_spreadBack 44 = .ok (.iadd, 1) := by decide +kernel
theorem dX1_spreadBack_45 : decode cX1_spreadBack 45 = .ok (.istore 6, 2) := by decide +kernel
theorem dX1_spreadBack_47 : decode cX1_spreadBack 47 = .ok (.iload 6, 2) := by decide +kernel
theorem dX1_spreadBack_49 : decode cX1_spreadBack 49 = .ok (.bipush 10, 2) := by decide +kernel
theorem dX1_spreadBack_51 : decode cX1_spreadBack 51 = .ok (.if_icmp .ge 64, 3) := by decide +kernel
theorem dX1_spreadBack_54 : decode cX1_spreadBack 54 = .ok (.iload_n 3, 1) := by decide +kernel
theorem dX1_spreadBack_55 : decode cX1_spreadBack 55 = .ok (.bipush 10, 2) := by decide +kernel
theorem dX1_spreadBack_57 : decode cX1_spreadBack 57 = .ok (.if_icmp .ge 58, 3) := by decide +kernel
theorem dX1_spreadBack_60 : decode cX1_spreadBack 60 = .ok (.aload_n 0, 1) := by decide +kernel
theorem dX1_spreadBack_61 : decode cX1_spreadBack 61 = .ok (.getfield 18, 3) := by decide +kernel
theorem dX1_spreadBack_64 : decode cX1_spreadBack 64 = .ok (.iload 6, 2) := by decide +kernel
theorem dX1_spreadBack_66 : decode cX1_spreadBack 66 = .ok (.iaload, 1) := by decide +kernel
theorem dX1_spreadBack_67 : decode cX1_spreadBack 67 = .ok (.ifCond .ne 42, 3) := by decide +kernel
theorem dX1_spreadBack_70 : decode cX1_spreadBack 70 = .ok (.aload_n 0, 1) := by decide +kernel
theorem dX1_spreadBack_71 : decode cX1_spreadBack 71 = .ok (.iload_n 1, 1) := by decide +kernel
theorem dX1_spreadBack_72 : decode cX1_spreadBack 72 = .ok (.iload 6, 2) := by decide +kernel
theorem dX1_spreadBack_74 : decode cX1_spreadBack 74 = .ok (.iload 5, 2) := by decide +kernel
theorem dX1_spreadBack_76 : decode cX1_spreadBack 76 = .ok (.invokevirtual 53, 3) := by decide +kernel
theorem dX1_spreadBack_79 : decode cX1_spreadBack 79 = .ok (.ifCond .le 30, 3) := by decide +kernel
theorem dX1_spreadBack_82 : decode cX1_spreadBack 82 = .ok (.aload_n 0, 1) := by decide +kernel
theorem dX1_spreadBack_83 : decode cX1_spreadBack 83 = .ok (.getfield 18, 3) := by decide +kernel
theorem dX1_spreadBack_86 : decode cX1_spreadBack 86 = .ok (.iload 6, 2) := by decide +kernel
theorem dX1_spreadBack_88 : decode cX1_spreadBack 88 = .ok (.aload_n 0, 1) := by decide +kernel
theorem dX1_spreadBack_89 : decode cX1_spreadBack 89 = .ok (.getfield 18, 3) := by decide +kernel
theorem dX1_spreadBack_92 : decode cX1_spreadBack 92 = .ok (.iload 5, 2) := by decide +kernel
theorem dX1_spreadBack_94 : decode cX1_spreadBack 94 = .ok (.iaload, 1) := by decide +kernel
theorem dX1_spreadBack_95 : decode cX1_spreadBack 95 = .ok (.iconst 1, 1) := by decide +kernel
theorem dX1_spreadBack_96 : decode cX1_spreadBack 96 = .ok (.iadd, 1) := by decide +kernel
theorem dX1_spreadBack_97 : decode cX1_spreadBack 97 = .ok (.iastore, 1) := by decide +kernel
theorem dX1_spreadBack_98 : decode cX1_spreadBack 98 = .ok (.aload_n 0, 1) := by decide +kernel
theorem dX1_spreadBack_99 : decode cX1_spreadBack 99 = .ok (.getfield 21, 3) := by decide +kernel
theorem dX1_spreadBack_102 : decode cX1_spreadBack 102 = .ok (.iload_n 3, 1) := by decide +kernel
theorem dX1_spreadBack_103 : decode cX1_spreadBack 103 = .ok (.iload 6, 2) := by decide +kernel
theorem dX1_spreadBack_105 : decode cX1_spreadBack 105 = .ok (.iastore, 1) := by decide +kernel
theorem dX1_spreadBack_106 : decode cX1_spreadBack 106 = .ok (.iinc 3 1, 3) := by decide +kernel
theorem dX1_spreadBack_109 : decode cX1_spreadBack 109 = .ok (.iinc 6 1, 3) := by decide +kernel
theorem dX1_spreadBack_112 : decode cX1_spreadBack 112 = .ok (.goto (-65), 3) := by decide +kernel
theorem dX1_spreadBack_115 : decode cX1_spreadBack 115 = .ok (.iinc 4 1, 3) := by decide +kernel
theorem dX1_spreadBack_118 : decode cX1_spreadBack 118 = .ok (.goto (-98), 3) := by decide +kernel
theorem dX1_spreadBack_121 : decode cX1_spreadBack 121 = .ok (.return_, 1) := by decide +kernel
theorem dX1_sizeAt_0 : decode cX1_sizeAt 0 = .ok (.iconst 0, 1) := by decide +kernel
theorem dX1_sizeAt_1 : decode cX1_sizeAt 1 = .ok (.istore_n 3, 1) := by decide +kernel
theorem dX1_sizeAt_2 : decode cX1_sizeAt 2 = .ok (.iload_n 2, 1) := by decide +kernel
theorem dX1_sizeAt_3 : decode cX1_sizeAt 3 = .ok (.iconst 1, 1) := by decide +kernel
theorem dX1_sizeAt_4 : decode cX1_sizeAt 4 = .ok (.iadd, 1) := by decide +kernel
theorem dX1_sizeAt_5 : decode cX1_sizeAt 5 = .ok (.istore 4, 2) := by decide +kernel
theorem dX1_sizeAt_7 : decode cX1_sizeAt 7 = .ok (.iload 4, 2) := by decide +kernel
theorem dX1_sizeAt_9 : decode cX1_sizeAt 9 = .ok (.bipush 10, 2) := by decide +kernel
theorem dX1_sizeAt_11 : decode cX1_sizeAt 11 = .ok (.if_icmp .ge 69, 3) := by decide +kernel
theorem dX1_sizeAt_14 : decode cX1_sizeAt 14 = .ok (.aload_n 0, 1) := by decide +kernel
theorem dX1_sizeAt_15 : decode cX1_sizeAt 15 = .ok (.getfield 18, 3) := by decide +kernel
theorem dX1_sizeAt_18 : decode cX1_sizeAt 18 = .ok (.iload 4, 2) := by decide +kernel
theorem dX1_sizeAt_20 : decode cX1_sizeAt 20 = .ok (.iaload, 1) := by decide +kernel
theorem dX1_sizeAt_21 : decode cX1_sizeAt 21 = .ok (.ifCond .le 18, 3) := by decide +kernel
theorem dX1_sizeAt_24 : decode cX1_sizeAt 24 = .ok (.aload_n 0, 1) := by decide +kernel
theorem dX1_sizeAt_25 : decode cX1_sizeAt 25 = .ok (.iload_n 1, 1) := by decide +kernel
theorem dX1_sizeAt_26 : decode cX1_sizeAt 26 = .ok (.iload_n 2, 1) := by decide +kernel
theorem dX1_sizeAt_27 : decode cX1_sizeAt 27 = .ok (.iload 4, 2) := by decide +kernel
theorem dX1_sizeAt_29 : decode cX1_sizeAt 29 = .ok (.invokevirtual 53, 3) := by decide +kernel
theorem dX1_sizeAt_32 : decode cX1_sizeAt 32 = .ok (.ifCond .le 7, 3) := by decide +kernel
theorem dX1_sizeAt_35 : decode cX1_sizeAt 35 = .ok (.iconst 1, 1) := by decide +kernel
theorem dX1_sizeAt_36 : decode cX1_sizeAt 36 = .ok (.goto 4, 3) := by decide +kernel
theorem dX1_sizeAt_39 : decode cX1_sizeAt 39 = .ok (.iconst 0, 1) := by decide +kernel
theorem dX1_sizeAt_40 : decode cX1_sizeAt 40 = .ok (.istore 5, 2) := by decide +kernel
theorem dX1_sizeAt_42 : decode cX1_sizeAt 42 = .ok (.iload 5, 2) := by decide +kernel
theorem dX1_sizeAt_44 : decode cX1_sizeAt 44 = .ok (.ifCond .eq 30, 3) := by decide +kernel
theorem dX1_sizeAt_47 : decode cX1_sizeAt 47 = .ok (.iload_n 3, 1) := by decide +kernel
theorem dX1_sizeAt_48 : decode cX1_sizeAt 48 = .ok (.ifCond .eq 16, 3) := by decide +kernel
theorem dX1_sizeAt_51 : decode cX1_sizeAt 51 = .ok (.aload_n 0, 1) := by decide +kernel
theorem dX1_sizeAt_52 : decode cX1_sizeAt 52 = .ok (.getfield 18, 3) := by decide +kernel
theorem dX1_sizeAt_55 : decode cX1_sizeAt 55 = .ok (.iload 4, 2) := by decide +kernel
theorem dX1_sizeAt_57 : decode cX1_sizeAt 57 = .ok (.iaload, 1) := by decide +kernel
theorem dX1_sizeAt_58 : decode cX1_sizeAt 58 = .ok (.iconst 1, 1) := by decide +kernel
theorem dX1_sizeAt_59 : decode cX1_sizeAt 59 = .ok (.iadd, 1) := by decide +kernel
theorem dX1_sizeAt_60 : decode cX1_sizeAt 60 = .ok (.iload_n 3, 1) := by decide +kernel
theorem dX1_sizeAt_61 : decode cX1_sizeAt 61 = .ok (.if_icmp .ge 13, 3) := by decide +kernel
theorem dX1_sizeAt_64 : decode cX1_sizeAt 64 = .ok (.aload_n 0, 1) := by decide +kernel
theorem dX1_sizeAt_65 : decode cX1_sizeAt 65 = .ok (.getfield 18, 3) := by decide +kernel
theorem dX1_sizeAt_68 : decode cX1_sizeAt 68 = .ok (.iload 4, 2) := by decide +kernel
theorem dX1_sizeAt_70 : decode cX1_sizeAt 70 = .ok (.iaload, 1) := by decide +kernel
theorem dX1_sizeAt_71 : decode cX1_sizeAt 71 = .ok (.iconst 1, 1) := by decide +kernel
theorem dX1_sizeAt_72 : decode cX1_sizeAt 72 = .ok (.iadd, 1) := by decide +kernel
theorem dX1_sizeAt_73 : decode cX1_sizeAt 73 = .ok (.istore_n 3, 1) := by decide +kernel
theorem dX1_sizeAt_74 : decode cX1_sizeAt 74 = .ok (.iinc 4 1, 3) := by decide +kernel
theorem dX1_sizeAt_77 : decode cX1_sizeAt 77 = .ok (.goto (-70), 3) := by decide +kernel
theorem dX1_sizeAt_80 : decode cX1_sizeAt 80 = .ok (.iload_n 3, 1) := by decide +kernel
theorem dX1_sizeAt_81 : decode cX1_sizeAt 81 = .ok (.ireturn, 1) := by decide +kernel
theorem dX1_traceRing_0 : decode cX1_traceRing 0 = .ok (.aload_n 0, 1) := by decide +kernel
theorem dX1_traceRing_1 : decode cX1_traceRing 1 = .ok (.getfield 15, 3) := by decide +kernel
theorem dX1_traceRing_4 : decode cX1_traceRing 4 = .ok (.iconst 0, 1) := by decide +kernel
theorem dX1_traceRing_5 : decode cX1_traceRing 5 = .ok (.iload_n 2, 1) := by decide +kernel
theorem dX1_traceRing_6 : decode cX1_traceRing 6 = .ok (.iastore, 1) := by decide +kernel
theorem dX1_traceRing_7 : decode cX1_traceRing 7 = .ok (.aload_n 0, 1) := by decide +kernel
theorem dX1_traceRing_8 : decode cX1_traceRing 8 = .ok (.iconst 1, 1) := by decide +kernel
theorem dX1_traceRing_9 : decode cX1_traceRing 9 = .ok (.putfield 24, 3) := by decide +kernel
theorem dX1_traceRing_12 : decode cX1_traceRing 12 = .ok (.iload_n 3, 1) := by decide +kernel
theorem dX1_traceRing_13 : decode cX1_traceRing 13 = .ok (.iconst 1, 1) := by decide +kernel
theorem dX1_traceRing_14 : decode cX1_traceRing 14 = .ok (.isub, 1) := by decide +kernel
theorem dX1_traceRing_15 : decode cX1_traceRing 15 = .ok (.istore 4, 2) := by decide +kernel
theorem dX1_traceRing_17 : decode cX1_traceRing 17 = .ok (.iload 4, 2) := by decide +kernel
theorem dX1_traceRing_19 : decode cX1_traceRing 19 = .ok (.ifCond .le 57, 3) := by decide +kernel
theorem dX1_traceRing_22 : decode cX1_traceRing 22 = .ok (.aload_n 0, 1) := by decide +kernel
theorem dX1_traceRing_23 : decode cX1_traceRing 23 = .ok (.iload_n 1, 1) := by decide +kernel
theorem dX1_traceRing_24 : decode cX1_traceRing 24 = .ok (.iload_n 2, 1) := by decide +kernel
theorem dX1_traceRing_25 : decode cX1_traceRing 25 = .ok (.iload 4, 2) := by decide +kernel
theorem dX1_traceRing_27 : decode cX1_traceRing 27 = .ok (.invokevirtual 57, 3) := by decide +kernel
theorem dX1_traceRing_30 : decode cX1_traceRing 30 = .ok (.istore 5, 2) := by decide +kernel
theorem dX1_traceRing_32 : decode cX1_traceRing 32 = .ok (.iload 5, 2) := by decide +kernel
theorem dX1_traceRing_34 : decode cX1_traceRing 34 = .ok (.ifCond .lt 42, 3) := by decide +kernel
theorem dX1_traceRing_37 : decode cX1_traceRing 37 = .ok (.aload_n 0, 1) := by decide +kernel
theorem dX1_traceRing_38 : decode cX1_traceRing 38 = .ok (.getfield 24, 3) := by decide +kernel
theorem dX1_traceRing_41 : decode cX1_traceRing 41 = .ok (.bipush 10, 2) := by decide +kernel
theorem dX1_traceRing_43 : decode cX1_traceRing 43 = .ok (.if_icmp .lt 6, 3) := by decide +kernel
theorem dX1_traceRing_46 : decode cX1_traceRing 46 = .ok (.goto 30, 3) := by decide +kernel
theorem dX1_traceRing_49 : decode cX1_traceRing 49 = .ok (.aload_n 0, 1) := by decide +kernel
theorem dX1_traceRing_50 : decode cX1_traceRing 50 = .ok (.getfield 15, 3) := by decide +kernel
theorem dX1_traceRing_53 : decode cX1_traceRing 53 = .ok (.aload_n 0, 1) := by decide +kernel
theorem dX1_traceRing_54 : decode cX1_traceRing 54 = .ok (.getfield 24, 3) := by decide +kernel
theorem dX1_traceRing_57 : decode cX1_traceRing 57 = .ok (.iload 5, 2) := by decide +kernel
theorem dX1_traceRing_59 : decode cX1_traceRing 59 = .ok (.iastore, 1) := by decide +kernel
theorem dX1_traceRing_60 : decode cX1_traceRing 60 = .ok (.aload_n 0, 1) := by decide +kernel
theorem dX1_traceRing_61 : decode cX1_traceRing 61 = .ok (.dup, 1) := by decide +kernel
theorem dX1_traceRing_62 : decode cX1_traceRing 62 = .ok (.getfield 24, 3) := by decide +kernel
theorem dX1_traceRing_65 : decode cX1_traceRing 65 = .ok (.iconst 1, 1) := by decide +kernel
theorem dX1_traceRing_66 : decode cX1_traceRing 66 = .ok (.iadd, 1) := by decide +kernel
theorem dX1_traceRing_67 : decode cX1_traceRing 67 = .ok (.putfield 24, 3) := by decide +kernel
theorem dX1_traceRing_70 : decode cX1_traceRing 70 = .ok (.iinc 4 (-1), 3) := by decide +kernel
theorem dX1_traceRing_73 : decode cX1_traceRing 73 = .ok (.goto (-56), 3) := by decide +kernel
theorem dX1_traceRing_76 : decode cX1_traceRing 76 = .ok (.return_, 1) := by decide +kernel
theorem dX1_nextHouse_0 : decode cX1_nextHouse 0 = .ok (.aload_n 0, 1) := by decide +kernel
theorem dX1_nextHouse_1 : decode cX1_nextHouse 1 = .ok (.getfield 15, 3) := by decide +kernel
theorem dX1_nextHouse_4 : decode cX1_nextHouse 4 = .ok (.aload_n 0, 1) := by decide +kernel
theorem dX1_nextHouse_5 : decode cX1_nextHouse 5 = .ok (.getfield 24, 3) := by decide +kernel
theorem dX1_nextHouse_8 : decode cX1_nextHouse 8 = .ok (.iconst 1, 1) := by decide +kernel
theorem dX1_nextHouse_9 : decode cX1_nextHouse 9 = .ok (.isub, 1) := by decide +kernel
theorem dX1_nextHouse_10 : decode cX1_nextHouse 10 = .ok (.iaload, 1) := by decide +kernel
theorem dX1_nextHouse_11 : decode cX1_nextHouse 11 = .ok (.istore 4, 2) := by decide +kernel
theorem dX1_nextHouse_13 : decode cX1_nextHouse 13 = .ok (.iload_n 2, 1) := by decide +kernel
theorem dX1_nextHouse_14 : decode cX1_nextHouse 14 = .ok (.iconst 1, 1) := by decide +kernel
theorem dX1_nextHouse_15 : decode cX1_nextHouse 15 = .ok (.iadd, 1) := by decide +kernel
theorem dX1_nextHouse_16 : decode cX1_nextHouse 16 = .ok (.istore 5, 2) := by decide +kernel
theorem dX1_nextHouse_18 : decode cX1_nextHouse 18 = .ok (.iload 5, 2) := by decide +kernel
theorem dX1_nextHouse_20 : decode cX1_nextHouse 20 = .ok (.bipush 10, 2) := by decide +kernel
theorem dX1_nextHouse_22 : decode cX1_nextHouse 22 = .ok (.if_icmp .ge 35, 3) := by decide +kernel
theorem dX1_nextHouse_25 : decode cX1_nextHouse 25 = .ok (.aload_n 0, 1) := by decide +kernel
theorem dX1_nextHouse_26 : decode cX1_nextHouse 26 = .ok (.getfield 18, 3) := by decide +kernel
theorem dX1_nextHouse_29 : decode cX1_nextHouse 29 = .ok (.iload 5, 2) := by decide +kernel
theorem dX1_nextHouse_31 : decode cX1_nextHouse 31 = .ok (.iaload, 1) := by decide +kernel
theorem dX1_nextHouse_32 : decode cX1_nextHouse 32 = .ok (.iload_n 3, 1) := by decide +kernel
theorem dX1_nextHouse_33 : decode cX1_nextHouse 33 = .ok (.if_icmp .ne 18, 3) := by decide +kernel
theorem dX1_nextHouse_36 : decode cX1_nextHouse 36 = .ok (.aload_n 0, 1) := by decide +kernel
theorem dX1_nextHouse_37 : decode cX1_nextHouse 37 = .ok (.iload_n 1, 1) := by decide +kernel
theorem dX1_nextHouse_38 : decode cX1_nextHouse 38 = .ok (.iload 4, 2) := by decide +kernel
theorem dX1_nextHouse_40 : decode cX1_nextHouse 40 = .ok (.iload 5, 2) := by decide +kernel
theorem dX1_nextHouse_42 : decode cX1_nextHouse 42 = .ok (.invokevirtual 53, 3) := by decide +kernel
theorem dX1_nextHouse_45 : decode cX1_nextHouse 45 = .ok (.ifCond .le 6, 3) := by decide +kernel
theorem dX1_nextHouse_48 : decode cX1_nextHouse 48 = .ok (.iload 5, 2) := by decide +kernel
theorem dX1_nextHouse_50 : decode cX1_nextHouse 50 = .ok (.ireturn, 1) := by decide +kernel
theorem dX1_nextHouse_51 : decode cX1_nextHouse 51 = .ok (.iinc 5 1, 3) := by decide +kernel
theorem dX1_nextHouse_54 : decode cX1_nextHouse 54 = .ok (.goto (-36), 3) := by decide +kernel
theorem dX1_nextHouse_57 : decode cX1_nextHouse 57 = .ok (.iconst (-1), 1) := by decide +kernel
theorem dX1_nextHouse_58 : decode cX1_nextHouse 58 = .ok (.ireturn, 1) := by decide +kernel
theorem dX1_lessenRing_0 : decode cX1_lessenRing 0 = .ok (.ldc 60, 2) := by decide +kernel
theorem dX1_lessenRing_2 : decode cX1_lessenRing 2 = .ok (.istore_n 2, 1) := by decide +kernel
theorem dX1_lessenRing_3 : decode cX1_lessenRing 3 = .ok (.iconst 0, 1) := by decide +kernel
theorem dX1_lessenRing_4 : decode cX1_lessenRing 4 = .ok (.istore_n 3, 1) := by decide +kernel
theorem dX1_lessenRing_5 : decode cX1_lessenRing 5 = .ok (.iload_n 3, 1) := by decide +kernel
theorem dX1_lessenRing_6 : decode cX1_lessenRing 6 = .ok (.aload_n 0, 1) := by decide +kernel
theorem dX1_lessenRing_7 : decode cX1_lessenRing 7 = .ok (.getfield 24, 3) := by decide +kernel
theorem dX1_lessenRing_10 : decode cX1_lessenRing 10 = .ok (.if_icmp .ge 30, 3) := by decide +kernel
theorem dX1_lessenRing_13 : decode cX1_lessenRing 13 = .ok (.iload_n 2, 1) := by decide +kernel
theorem dX1_lessenRing_14 : decode cX1_lessenRing 14 = .ok (.aload_n 0, 1) := by decide +kernel
theorem dX1_lessenRing_15 : decode cX1_lessenRing 15 = .ok (.iload_n 1, 1) := by decide +kernel
theorem dX1_lessenRing_16 : decode cX1_lessenRing 16 = .ok (.aload_n 0, 1) := by decide +kernel
theorem dX1_lessenRing_17 : decode cX1_lessenRing 17 = .ok (.getfield 15, 3) := by decide +kernel
theorem dX1_lessenRing_20 : decode cX1_lessenRing 20 = .ok (.iload_n 3, 1) := by decide +kernel
theorem dX1_lessenRing_21 : decode cX1_lessenRing 21 = .ok (.iaload, 1) := by decide +kernel
theorem dX1_lessenRing_22 : decode cX1_lessenRing 22 = .ok (.aload_n 0, 1) := by decide +kernel
theorem dX1_lessenRing_23 : decode cX1_lessenRing 23 = .ok (.iload_n 3, 1) := by decide +kernel
theorem dX1_lessenRing_24 : decode cX1_lessenRing 24 = .ok (.invokevirtual 61, 3) := by decide +kernel
theorem dX1_lessenRing_27 : decode cX1_lessenRing 27 = .ok (.invokevirtual 53, 3) := by decide +kernel
theorem dX1_lessenRing_30 : decode cX1_lessenRing 30 = .ok (.invokestatic 65, 3) := by decide +kernel
theorem dX1_lessenRing_33 : decode cX1_lessenRing 33 = .ok (.istore_n 2, 1) := by decide +kernel
theorem dX1_lessenRing_34 : decode cX1_lessenRing 34 = .ok (.iinc 3 1, 3) := by decide +kernel
theorem dX1_lessenRing_37 : decode cX1_lessenRing 37 = .ok (.goto (-32), 3) := by decide +kernel
theorem dX1_lessenRing_40 : decode cX1_lessenRing 40 = .ok (.iconst 0, 1) := by decide +kernel
theorem dX1_lessenRing_41 : decode cX1_lessenRing 41 = .ok (.istore_n 3, 1) := by decide +kernel
theorem dX1_lessenRing_42 : decode cX1_lessenRing 42 = .ok (.iload_n 3, 1) := by decide +kernel
theorem dX1_lessenRing_43 : decode cX1_lessenRing 43 = .ok (.aload_n 0, 1) := by decide +kernel
theorem dX1_lessenRing_44 : decode cX1_lessenRing 44 = .ok (.getfield 24, 3) := by decide +kernel
theorem dX1_lessenRing_47 : decode cX1_lessenRing 47 = .ok (.if_icmp .ge 27, 3) := by decide +kernel
theorem dX1_lessenRing_50 : decode cX1_lessenRing 50 = .ok (.aload_n 0, 1) := by decide +kernel
theorem dX1_lessenRing_51 : decode cX1_lessenRing 51 = .ok (.iload_n 1, 1) := by decide +kernel
theorem dX1_lessenRing_52 : decode cX1_lessenRing 52 = .ok (.aload_n 0, 1) := by decide +kernel
theorem dX1_lessenRing_53 : decode cX1_lessenRing 53 = .ok (.getfield 15, 3) := by decide +kernel
theorem dX1_lessenRing_56 : decode cX1_lessenRing 56 = .ok (.iload_n 3, 1) := by decide +kernel
theorem dX1_lessenRing_57 : decode cX1_lessenRing 57 = .ok (.iaload, 1) := by decide +kernel
theorem dX1_lessenRing_58 : decode cX1_lessenRing 58 = .ok (.aload_n 0, 1) := by decide +kernel
theorem dX1_lessenRing_59 : decode cX1_lessenRing 59 = .ok (.iload_n 3, 1) := by decide +kernel
theorem dX1_lessenRing_60 : decode cX1_lessenRing 60 = .ok (.invokevirtual 61, 3) := by decide +kernel
theorem dX1_lessenRing_63 : decode cX1_lessenRing 63 = .ok (.iload_n 2, 1) := by decide +kernel
theorem dX1_lessenRing_64 : decode cX1_lessenRing 64 = .ok (.ineg, 1) := by decide +kernel
theorem dX1_lessenRing_65 : decode cX1_lessenRing 65 = .ok (.invokevirtual 70, 3) := by decide +kernel
theorem dX1_lessenRing_68 : decode cX1_lessenRing 68 = .ok (.iinc 3 1, 3) := by decide +kernel
theorem dX1_lessenRing_71 : decode cX1_lessenRing 71 = .ok (.goto (-29), 3) := by decide +kernel
theorem dX1_lessenRing_74 : decode cX1_lessenRing 74 = .ok (.return_, 1) := by decide +kernel
theorem dX1_afterInRing_0 : decode cX1_afterInRing 0 = .ok (.iload_n 1, 1) := by decide +kernel
theorem dX1_afterInRing_1 : decode cX1_afterInRing 1 = .ok (.iconst 1, 1) := by decide +kernel
theorem dX1_afterInRing_2 : decode cX1_afterInRing 2 = .ok (.iadd, 1) := by decide +kernel
theorem dX1_afterInRing_3 : decode cX1_afterInRing 3 = .ok (.aload_n 0, 1) := by decide +kernel
theorem dX1_afterInRing_4 : decode cX1_afterInRing 4 = .ok (.getfield 24, 3) := by decide +kernel
theorem dX1_afterInRing_7 : decode cX1_afterInRing 7 = .ok (.if_icmp .ge 14, 3) := by decide +kernel
theorem dX1_afterInRing_10 : decode cX1_afterInRing 10 = .ok (.aload_n 0, 1) := by decide +kernel
theorem dX1_afterInRing_11 : decode cX1_afterInRing 11 = .ok (.getfield 15, 3) := by decide +kernel
theorem dX1_afterInRing_14 : decode cX1_afterInRing 14 = .ok (.iload_n 1, 1) := by decide +kernel
theorem dX1_afterInRing_15 : decode cX1_afterInRing 15 = .ok (.iconst 1, 1) := by decide +kernel
theorem dX1_afterInRing_16 : decode cX1_afterInRing 16 = .ok (.iadd, 1) := by decide +kernel
theorem dX1_afterInRing_17 : decode cX1_afterInRing 17 = .ok (.iaload, 1) := by decide +kernel
theorem dX1_afterInRing_18 : decode cX1_afterInRing 18 = .ok (.goto 9, 3) := by decide +kernel
theorem dX1_afterInRing_21 : decode cX1_afterInRing 21 = .ok (.aload_n 0, 1) := by decide +kernel
theorem dX1_afterInRing_22 : decode cX1_afterInRing 22 = .ok (.getfield 15, 3) := by decide +kernel
theorem dX1_afterInRing_25 : decode cX1_afterInRing 25 = .ok (.iconst 0, 1) := by decide +kernel
theorem dX1_afterInRing_26 : decode cX1_afterInRing 26 = .ok (.iaload, 1) := by decide +kernel
theorem dX1_afterInRing_27 : decode cX1_afterInRing 27 = .ok (.ireturn, 1) := by decide +kernel
theorem dX2_init_0 : decode cX2_init 0 = .ok (.aload_n 0, 1) := by decide +kernel
theorem dX2_init_1 : decode cX2_init 1 = .ok (.invokespecial 3, 3) := by decide +kernel
theorem dX2_init_4 : decode cX2_init 4 = .ok (.aload_n 0, 1) := by decide +kernel
theorem dX2_init_5 : decode cX2_init 5 = .ok (.sipush 400, 3) := by decide +kernel
theorem dX2_init_8 : decode cX2_init 8 = .ok (.anewarray 9, 3) := by decide +kernel
theorem dX2_init_11 : decode cX2_init 11 = .ok (.putfield 11, 3) := by decide +kernel
theorem dX2_init_14 : decode cX2_init 14 = .ok (.aload_n 0, 1) := by decide +kernel
theorem dX2_init_15 : decode cX2_init 15 = .ok (.sipush 200, 3) := by decide +kernel
theorem dX2_init_18 : decode cX2_init 18 = .ok (.anewarray 17, 3) := by decide +kernel
theorem dX2_init_21 : decode cX2_init 21 = .ok (.putfield 19, 3) := by decide +kernel
theorem dX2_init_24 : decode cX2_init 24 = .ok (.aload_n 0, 1) := by decide +kernel
theorem dX2_init_25 : decode cX2_init 25 = .ok (.sipush 600, 3) := by decide +kernel
theorem dX2_init_28 : decode cX2_init 28 = .ok (.anewarray 9, 3) := by decide +kernel
theorem dX2_init_31 : decode cX2_init 31 = .ok (.putfield 23, 3) := by decide +kernel
theorem dX2_init_34 : decode cX2_init 34 = .ok (.aload_n 0, 1) := by decide +kernel
theorem dX2_init_35 : decode cX2_init 35 = .ok (.new 26, 3) := by decide +kernel
theorem dX2_init_38 : decode cX2_init 38 = .ok (.dup, 1) := by decide +kernel
theorem dX2_init_39 : decode cX2_init 39 = .ok (.invokespecial 28, 3) := by decide +kernel
theorem dX2_init_42 : decode cX2_init 42 = .ok (.putfield 29, 3) := by decide +kernel
theorem dX2_init_45 : decode cX2_init 45 = .ok (.return_, 1) := by decide +kernel
theorem dX2_tellingAt_0 : decode cX2_tellingAt 0 = .ok (.iload_n 1, 1) := by decide +kernel
theorem dX2_tellingAt_1 : decode cX2_tellingAt 1 = .ok (.ifCond .lt 20, 3) := by decide +kernel
theorem dX2_tellingAt_4 : decode cX2_tellingAt 4 = .ok (.iload_n 1, 1) := by decide +kernel
theorem dX2_tellingAt_5 : decode cX2_tellingAt 5 = .ok (.aload_n 0, 1) := by decide +kernel
theorem dX2_tellingAt_6 : decode cX2_tellingAt 6 = .ok (.getfield 33, 3) := by decide +kernel
theorem dX2_tellingAt_9 : decode cX2_tellingAt 9 = .ok (.if_icmp .ge 12, 3) := by decide +kernel
theorem dX2_tellingAt_12 : decode cX2_tellingAt 12 = .ok (.aload_n 0, 1) := by decide +kernel
theorem dX2_tellingAt_13 : decode cX2_tellingAt 13 = .ok (.getfield 11, 3) := by decide +kernel
theorem dX2_tellingAt_16 : decode cX2_tellingAt 16 = .ok (.iload_n 1, 1) := by decide +kernel
theorem dX2_tellingAt_17 : decode cX2_tellingAt 17 = .ok (.aaload, 1) := by decide +kernel
theorem dX2_tellingAt_18 : decode cX2_tellingAt 18 = .ok (.goto 4, 3) := by decide +kernel
theorem dX2_tellingAt_21 : decode cX2_tellingAt 21 = .ok (.aconst_null, 1) := by decide +kernel
theorem dX2_tellingAt_22 : decode cX2_tellingAt 22 = .ok (.areturn, 1) := by decide +kernel
theorem dX2_pairAt_0 : decode cX2_pairAt 0 = .ok (.iload_n 1, 1) := by decide +kernel
theorem dX2_pairAt_1 : decode cX2_pairAt 1 = .ok (.ifCond .lt 20, 3) := by decide +kernel
theorem dX2_pairAt_4 : decode cX2_pairAt 4 = .ok (.iload_n 1, 1) := by decide +kernel
theorem dX2_pairAt_5 : decode cX2_pairAt 5 = .ok (.aload_n 0, 1) := by decide +kernel
theorem dX2_pairAt_6 : decode cX2_pairAt 6 = .ok (.getfield 37, 3) := by decide +kernel
theorem dX2_pairAt_9 : decode cX2_pairAt 9 = .ok (.if_icmp .ge 12, 3) := by decide +kernel
theorem dX2_pairAt_12 : decode cX2_pairAt 12 = .ok (.aload_n 0, 1) := by decide +kernel
theorem dX2_pairAt_13 : decode cX2_pairAt 13 = .ok (.getfield 19, 3) := by decide +kernel
theorem dX2_pairAt_16 : decode cX2_pairAt 16 = .ok (.iload_n 1, 1) := by decide +kernel
theorem dX2_pairAt_17 : decode cX2_pairAt 17 = .ok (.aaload, 1) := by decide +kernel
theorem dX2_pairAt_18 : decode cX2_pairAt 18 = .ok (.goto 4, 3) := by decide +kernel
theorem dX2_pairAt_21 : decode cX2_pairAt 21 = .ok (.aconst_null, 1) := by decide +kernel
theorem dX2_pairAt_22 : decode cX2_pairAt 22 = .ok (.areturn, 1) := by decide +kernel
theorem dX2_keepTelling_0 : decode cX2_keepTelling 0 = .ok (.aload_n 0, 1) := by decide +kernel
theorem dX2_keepTelling_1 : decode cX2_keepTelling 1 = .ok (.getfield 33, 3) := by decide +kernel
theorem dX2_keepTelling_4 : decode cX2_keepTelling 4 = .ok (.sipush 400, 3) := by decide +kernel
theorem dX2_keepTelling_7 : decode cX2_keepTelling 7 = .ok (.if_icmp .ge 23, 3) := by decide +kernel
theorem dX2_keepTelling_10 : decode cX2_keepTelling 10 = .ok (.aload_n 0, 1) := by decide +kernel
theorem dX2_keepTelling_11 : decode cX2_keepTelling 11 = .ok (.getfield 11, 3) := by decide +kernel
theorem dX2_keepTelling_14 : decode cX2_keepTelling 14 = .ok (.aload_n 0, 1) := by decide +kernel
theorem dX2_keepTelling_15 : decode cX2_keepTelling 15 = .ok (.getfield 33, 3) := by decide +kernel
theorem dX2_keepTelling_18 : decode cX2_keepTelling 18 = .ok (.aload_n 1, 1) := by decide +kernel
theorem dX2_keepTelling_19 : decode cX2_keepTelling 19 = .ok (.aastore, 1) := by decide +kernel
theorem dX2_keepTelling_20 : decode cX2_keepTelling 20 = .ok (.aload_n 0, 1) := by decide +kernel
theorem dX2_keepTelling_21 : decode cX2_keepTelling 21 = .ok (.dup, 1) := by decide +kernel
theorem dX2_keepTelling_22 : decode cX2_keepTelling 22 = .ok (.getfield 33, 3) := by decide +kernel
theorem dX2_keepTelling_25 : decode cX2_keepTelling 25 = .ok (.iconst 1, 1) := by decide +kernel
theorem dX2_keepTelling_26 : decode cX2_keepTelling 26 = .ok (.iadd, 1) := by decide +kernel
theorem dX2_keepTelling_27 : decode cX2_keepTelling 27 = .ok (.putfield 33, 3) := by decide +kernel
theorem dX2_keepTelling_30 : decode cX2_keepTelling 30 = .ok (.return_, 1) := by decide +kernel
theorem dX2_openTellings_0 : decode cX2_openTellings 0 = .ok (.iconst 0, 1) := by decide +kernel
theorem dX2_openTellings_1 : decode cX2_openTellings 1 = .ok (.istore_n 1, 1) := by decide +kernel
theorem dX2_openTellings_2 : decode cX2_openTellings 2 = .ok (.iconst 0, 1) := by decide +kernel
theorem dX2_openTellings_3 : decode cX2_openTellings 3 = .ok (.istore_n 2, 1) := by decide +kernel
theorem dX2_openTellings_4 : decode cX2_openTellings 4 = .ok (.iload_n 2, 1) := by decide +kernel
theorem dX2_openTellings_5 : decode cX2_openTellings 5 = .ok (.aload_n 0, 1) := by decide +kernel
theorem dX2_openTellings_6 : decode cX2_openTellings 6 = .ok (.getfield 33, 3) := by decide +kernel
theorem dX2_openTellings_9 : decode cX2_openTellings 9 = .ok (.if_icmp .ge 30, 3) := by decide +kernel
theorem dX2_openTellings_12 : decode cX2_openTellings 12 = .ok (.aload_n 0, 1) := by decide +kernel
