theorem dX2_openTellings_13 : decode cX2_openTellings 13 = .ok (.getfield 11, 3) := by decide +kernel
theorem dX2_openTellings_16 : decode cX2_openTellings 16 = .ok (.iload_n 2, 1) := by decide +kernel
theorem dX2_openTellings_17 : decode cX2_openTellings 17 = .ok (.aaload, 1) := by decide +kernel
theorem dX2_openTellings_18 : decode cX2_openTellings 18 = .ok (.astore_n 3, 1) := by decide +kernel
theorem dX2_openTellings_19 : decode cX2_openTellings 19 = .ok (.aload_n 3, 1) := by decide +kernel
theorem dX2_openTellings_20 : decode cX2_openTellings 20 = .ok (.ifnull 13, 3) := by decide +kernel
theorem dX2_openTellings_23 : decode cX2_openTellings 23 = .ok (.aload_n 3, 1) := by decide +kernel
theorem dX2_openTellings_24 : decode cX2_openTellings 24 = .ok (.getfield 40, 3) := by decide +kernel
theorem dX2_openTellings_27 : decode cX2_openTellings 27 = .ok (.ifCond .ne 6, 3) := by decide +kernel
theorem dX2_openTellings_30 : decode cX2_openTellings 30 = .ok (.iinc 1 1, 3) := by decide +kernel
theorem dX2_openTellings_33 : decode cX2_openTellings 33 = .ok (.iinc 2 1, 3) := by decide +kernel
theorem dX2_openTellings_36 : decode cX2_openTellings 36 = .ok (.goto (-32), 3) := by decide +kernel
theorem dX2_openTellings_39 : decode cX2_openTellings 39 = .ok (.iload_n 1, 1) := by decide +kernel
theorem dX2_openTellings_40 : decode cX2_openTellings 40 = .ok (.ireturn, 1) := by decide +kernel
theorem dX2_openQuarrels_0 : decode cX2_openQuarrels 0 = .ok (.iconst 0, 1) := by decide +kernel
theorem dX2_openQuarrels_1 : decode cX2_openQuarrels 1 = .ok (.istore_n 1, 1) := by decide +kernel
theorem dX2_openQuarrels_2 : decode cX2_openQuarrels 2 = .ok (.iconst 0, 1) := by decide +kernel
theorem dX2_openQuarrels_3 : decode cX2_openQuarrels 3 = .ok (.istore_n 2, 1) := by decide +kernel
theorem dX2_openQuarrels_4 : decode cX2_openQuarrels 4 = .ok (.iload_n 2, 1) := by decide +kernel
theorem dX2_openQuarrels_5 : decode cX2_openQuarrels 5 = .ok (.aload_n 0, 1) := by decide +kernel
theorem dX2_openQuarrels_6 : decode cX2_openQuarrels 6 = .ok (.getfield 37, 3) := by decide +kernel
theorem dX2_openQuarrels_9 : decode cX2_openQuarrels 9 = .ok (.if_icmp .ge 37, 3) := by decide +kernel
theorem dX2_openQuarrels_12 : decode cX2_openQuarrels 12 = .ok (.aload_n 0, 1) := by decide +kernel
theorem dX2_openQuarrels_13 : decode cX2_openQuarrels 13 = .ok (.getfield 19, 3) := by decide +kernel
theorem dX2_openQuarrels_16 : decode cX2_openQuarrels 16 = .ok (.iload_n 2, 1) := by decide +kernel
theorem dX2_openQuarrels_17 : decode cX2_openQuarrels 17 = .ok (.aaload, 1) := by decide +kernel
theorem dX2_openQuarrels_18 : decode cX2_openQuarrels 18 = .ok (.astore_n 3, 1) := by decide +kernel
theorem dX2_openQuarrels_19 : decode cX2_openQuarrels 19 = .ok (.aload_n 3, 1) := by decide +kernel
theorem dX2_openQuarrels_20 : decode cX2_openQuarrels 20 = .ok (.ifnull 20, 3) := by decide +kernel
theorem dX2_openQuarrels_23 : decode cX2_openQuarrels 23 = .ok (.aload_n 3, 1) := by decide +kernel
theorem dX2_openQuarrels_24 : decode cX2_openQuarrels 24 = .ok (.invokevirtual 43, 3) := by decide +kernel
theorem dX2_openQuarrels_27 : decode cX2_openQuarrels 27 = .ok (.ifCond .eq 13, 3) := by decide +kernel
theorem dX2_openQuarrels_30 : decode cX2_openQuarrels 30 = .ok (.aload_n 3, 1) := by decide +kernel
theorem dX2_openQuarrels_31 : decode cX2_openQuarrels 31 = .ok (.getfield 47, 3) := by decide +kernel
theorem dX2_openQuarrels_34 : decode cX2_openQuarrels 34 = .ok (.ifCond .ne 6, 3) := by decide +kernel
theorem dX2_openQuarrels_37 : decode cX2_openQuarrels 37 = .ok (.iinc 1 1, 3) := by decide +kernel
theorem dX2_openQuarrels_40 : decode cX2_openQuarrels 40 = .ok (.iinc 2 1, 3) := by decide +kernel
theorem dX2_openQuarrels_43 : decode cX2_openQuarrels 43 = .ok (.goto (-39), 3) := by decide +kernel
theorem dX2_openQuarrels_46 : decode cX2_openQuarrels 46 = .ok (.iload_n 1, 1) := by decide +kernel
theorem dX2_openQuarrels_47 : decode cX2_openQuarrels 47 = .ok (.ireturn, 1) := by decide +kernel
theorem dX2_cameTo_0 : decode cX2_cameTo 0 = .ok (.iconst 0, 1) := by decide +kernel
theorem dX2_cameTo_1 : decode cX2_cameTo 1 = .ok (.istore_n 3, 1) := by decide +kernel
theorem dX2_cameTo_2 : decode cX2_cameTo 2 = .ok (.iconst 0, 1) := by decide +kernel
theorem dX2_cameTo_3 : decode cX2_cameTo 3 = .ok (.istore 4, 2) := by decide +kernel
theorem dX2_cameTo_5 : decode cX2_cameTo 5 = .ok (.iload 4, 2) := by decide +kernel
theorem dX2_cameTo_7 : decode cX2_cameTo 7 = .ok (.aload_n 0, 1) := by decide +kernel
theorem dX2_cameTo_8 : decode cX2_cameTo 8 = .ok (.getfield 37, 3) := by decide +kernel
theorem dX2_cameTo_11 : decode cX2_cameTo 11 = .ok (.if_icmp .ge 55, 3) := by decide +kernel
theorem dX2_cameTo_14 : decode cX2_cameTo 14 = .ok (.aload_n 0, 1) := by decide +kernel
theorem dX2_cameTo_15 : decode cX2_cameTo 15 = .ok (.getfield 19, 3) := by decide +kernel
theorem dX2_cameTo_18 : decode cX2_cameTo 18 = .ok (.iload 4, 2) := by decide +kernel
theorem dX2_cameTo_20 : decode cX2_cameTo 20 = .ok (.aaload, 1) := by decide +kernel
theorem dX2_cameTo_21 : decode cX2_cameTo 21 = .ok (.astore 5, 2) := by decide +kernel
theorem dX2_cameTo_23 : decode cX2_cameTo 23 = .ok (.aload 5, 2) := by decide +kernel
theorem dX2_cameTo_25 : decode cX2_cameTo 25 = .ok (.ifnull 35, 3) := by decide +kernel
theorem dX2_cameTo_28 : decode cX2_cameTo 28 = .ok (.aload 5, 2) := by decide +kernel
theorem dX2_cameTo_30 : decode cX2_cameTo 30 = .ok (.getfield 51, 3) := by decide +kernel
theorem dX2_cameTo_33 : decode cX2_cameTo 33 = .ok (.getfield 55, 3) := by decide +kernel
theorem dX2_cameTo_36 : decode cX2_cameTo 36 = .ok (.iload_n 1, 1) := by decide +kernel
theorem dX2_cameTo_37 : decode cX2_cameTo 37 = .ok (.if_icmp .ne 23, 3) := by decide +kernel
theorem dX2_cameTo_40 : decode cX2_cameTo 40 = .ok (.aload 5, 2) := by decide +kernel
theorem dX2_cameTo_42 : decode cX2_cameTo 42 = .ok (.getfield 51, 3) := by decide +kernel
theorem dX2_cameTo_45 : decode cX2_cameTo 45 = .ok (.getfield 58, 3) := by decide +kernel
theorem dX2_cameTo_48 : decode cX2_cameTo 48 = .ok (.iload_n 2, 1) := by decide +kernel
theorem dX2_cameTo_49 : decode cX2_cameTo 49 = .ok (.if_icmp .ne 11, 3) := by decide +kernel
theorem dX2_cameTo_52 : decode cX2_cameTo 52 = .ok (.iload_n 3, 1) := by decide +kernel
theorem dX2_cameTo_53 : decode cX2_cameTo 53 = .ok (.aload 5, 2) := by decide +kernel
theorem dX2_cameTo_55 : decode cX2_cameTo 55 = .ok (.getfield 61, 3) := by decide +kernel
theorem dX2_cameTo_58 : decode cX2_cameTo 58 = .ok (.iadd, 1) := by decide +kernel
theorem dX2_cameTo_59 : decode cX2_cameTo 59 = .ok (.istore_n 3, 1) := by decide +kernel
theorem dX2_cameTo_60 : decode cX2_cameTo 60 = .ok (.iinc 4 1, 3) := by decide +kernel
theorem dX2_cameTo_63 : decode cX2_cameTo 63 = .ok (.goto (-58), 3) := by decide +kernel
theorem dX2_cameTo_66 : decode cX2_cameTo 66 = .ok (.iload_n 3, 1) := by decide +kernel
theorem dX2_cameTo_67 : decode cX2_cameTo 67 = .ok (.ireturn, 1) := by decide +kernel
theorem dX2_pairUp_0 : decode cX2_pairUp 0 = .ok (.aload_n 0, 1) := by decide +kernel
theorem dX2_pairUp_1 : decode cX2_pairUp 1 = .ok (.invokevirtual 64, 3) := by decide +kernel
theorem dX2_pairUp_4 : decode cX2_pairUp 4 = .ok (.iconst 0, 1) := by decide +kernel
theorem dX2_pairUp_5 : decode cX2_pairUp 5 = .ok (.istore_n 2, 1) := by decide +kernel
theorem dX2_pairUp_6 : decode cX2_pairUp 6 = .ok (.iconst 0, 1) := by decide +kernel
theorem dX2_pairUp_7 : decode cX2_pairUp 7 = .ok (.istore_n 3, 1) := by decide +kernel
theorem dX2_pairUp_8 : decode cX2_pairUp 8 = .ok (.iload_n 3, 1) := by decide +kernel
theorem dX2_pairUp_9 : decode cX2_pairUp 9 = .ok (.sipush 600, 3) := by decide +kernel
theorem dX2_pairUp_12 : decode cX2_pairUp 12 = .ok (.if_icmp .ge 37, 3) := by decide +kernel
theorem dX2_pairUp_15 : decode cX2_pairUp 15 = .ok (.iload_n 2, 1) := by decide +kernel
theorem dX2_pairUp_16 : decode cX2_pairUp 16 = .ok (.bipush 25, 2) := by decide +kernel
theorem dX2_pairUp_18 : decode cX2_pairUp 18 = .ok (.if_icmp .ge 31, 3) := by decide +kernel
theorem dX2_pairUp_21 : decode cX2_pairUp 21 = .ok (.aload_n 0, 1) := by decide +kernel
theorem dX2_pairUp_22 : decode cX2_pairUp 22 = .ok (.getfield 23, 3) := by decide +kernel
theorem dX2_pairUp_25 : decode cX2_pairUp 25 = .ok (.iload_n 3, 1) := by decide +kernel
theorem dX2_pairUp_26 : decode cX2_pairUp 26 = .ok (.aaload, 1) := by decide +kernel
theorem dX2_pairUp_27 : decode cX2_pairUp 27 = .ok (.ifnull 16, 3) := by decide +kernel
theorem dX2_pairUp_30 : decode cX2_pairUp 30 = .ok (.iload_n 2, 1) := by decide +kernel
theorem dX2_pairUp_31 : decode cX2_pairUp 31 = .ok (.aload_n 0, 1) := by decide +kernel
theorem dX2_pairUp_32 : decode cX2_pairUp 32 = .ok (.iload_n 3, 1) := by decide +kernel
theorem dX2_pairUp_33 : decode cX2_pairUp 33 = .ok (.iload_n 1, 1) := by decide +kernel
theorem dX2_pairUp_34 : decode cX2_pairUp 34 = .ok (.bipush 25, 2) := by decide +kernel
theorem dX2_pairUp_36 : decode cX2_pairUp 36 = .ok (.iload_n 2, 1) := by decide +kernel
theorem dX2_pairUp_37 : decode cX2_pairUp 37 = .ok (.isub, 1) := by decide +kernel
theorem dX2_pairUp_38 : decode cX2_pairUp 38 = .ok (.invokevirtual 67, 3) := by decide +kernel
theorem dX2_pairUp_41 : decode cX2_pairUp 41 = .ok (.iadd, 1) := by decide +kernel
theorem dX2_pairUp_42 : decode cX2_pairUp 42 = .ok (.istore_n 2, 1) := by decide +kernel
theorem dX2_pairUp_43 : decode cX2_pairUp 43 = .ok (.iinc 3 1, 3) := by decide +kernel
theorem dX2_pairUp_46 : decode cX2_pairUp 46 = .ok (.goto (-38), 3) := by decide +kernel
theorem dX2_pairUp_49 : decode cX2_pairUp 49 = .ok (.iload_n 2, 1) := by decide +kernel
theorem dX2_pairUp_50 : decode cX2_pairUp 50 = .ok (.ireturn, 1) := by decide +kernel
theorem dX2_chainOpenTellings_0 : decode cX2_chainOpenTellings 0 = .ok (.iconst 0, 1) := by decide +kernel
theorem dX2_chainOpenTellings_1 : decode cX2_chainOpenTellings 1 = .ok (.istore_n 1, 1) := by decide +kernel
theorem dX2_chainOpenTellings_2 : decode cX2_chainOpenTellings 2 = .ok (.iload_n 1, 1) := by decide +kernel
theorem dX2_chainOpenTellings_3 : decode cX2_chainOpenTellings 3 = .ok (.sipush 600, 3) := by decide +kernel
theorem dX2_chainOpenTellings_6 : decode cX2_chainOpenTellings 6 = .ok (.if_icmp .ge 16, 3) := by decide +kernel
theorem dX2_chainOpenTellings_9 : decode cX2_chainOpenTellings 9 = .ok (.aload_n 0, 1) := by decide +kernel
theorem dX2_chainOpenTellings_10 : decode cX2_chainOpenTellings 10 = .ok (.getfield 23, 3) := by decide +kernel
theorem dX2_chainOpenTellings_13 : decode cX2_chainOpenTellings 13 = .ok (.iload_n 1, 1) := by decide +kernel
theorem dX2_chainOpenTellings_14 : decode cX2_chainOpenTellings 14 = .ok (.aconst_null, 1) := by decide +kernel
theorem dX2_chainOpenTellings_15 : decode cX2_chainOpenTellings 15 = .ok (.aastore, 1) := by decide +kernel
theorem dX2_chainOpenTellings_16 : decode cX2_chainOpenTellings 16 = .ok (.iinc 1 1, 3) := by decide +kernel
theorem dX2_chainOpenTellings_19 : decode cX2_chainOpenTellings 19 = .ok (.goto (-17), 3) := by decide +kernel
theorem dX2_chainOpenTellings_22 : decode cX2_chainOpenTellings 22 = .ok (.aload_n 0, 1) := by decide +kernel
theorem dX2_chainOpenTellings_23 : decode cX2_chainOpenTellings 23 = .ok (.getfield 33, 3) := by decide +kernel
theorem dX2_chainOpenTellings_26 : decode cX2_chainOpenTellings 26 = .ok (.iconst 1, 1) := by decide +kernel
theorem dX2_chainOpenTellings_27 : decode cX2_chainOpenTellings 27 = .ok (.isub, 1) := by decide +kernel
theorem dX2_chainOpenTellings_28 : decode cX2_chainOpenTellings 28 = .ok (.istore_n 1, 1) := by decide +kernel
theorem dX2_chainOpenTellings_29 : decode cX2_chainOpenTellings 29 = .ok (.iload_n 1, 1) := by decide +kernel
theorem dX2_chainOpenTellings_30 : decode cX2_chainOpenTellings 30 = .ok (.ifCond .lt 63, 3) := by decide +kernel
theorem dX2_chainOpenTellings_33 : decode cX2_chainOpenTellings 33 = .ok (.aload_n 0, 1) := by decide +kernel
theorem dX2_chainOpenTellings_34 : decode cX2_chainOpenTellings 34 = .ok (.getfield 11, 3) := by decide +kernel
theorem dX2_chainOpenTellings_37 : decode cX2_chainOpenTellings 37 = .ok (.iload_n 1, 1) := by decide +kernel
theorem dX2_chainOpenTellings_38 : decode cX2_chainOpenTellings 38 = .ok (.aaload, 1) := by decide +kernel
theorem dX2_chainOpenTellings_39 : decode cX2_chainOpenTellings 39 = .ok (.astore_n 2, 1) := by decide +kernel
theorem dX2_chainOpenTellings_40 : decode cX2_chainOpenTellings 40 = .ok (.aload_n 2, 1) := by decide +kernel
theorem dX2_chainOpenTellings_41 : decode cX2_chainOpenTellings 41 = .ok (.ifnull 46, 3) := by decide +kernel
theorem dX2_chainOpenTellings_44 : decode cX2_chainOpenTellings 44 = .ok (.aload_n 2, 1) := by decide +kernel
theorem dX2_chainOpenTellings_45 : decode cX2_chainOpenTellings 45 = .ok (.getfield 40, 3) := by decide +kernel
theorem dX2_chainOpenTellings_48 : decode cX2_chainOpenTellings 48 = .ok (.ifCond .eq 6, 3) := by decide +kernel
theorem dX2_chainOpenTellings_51 : decode cX2_chainOpenTellings 51 = .ok (.goto 36, 3) := by decide +kernel
theorem dX2_chainOpenTellings_54 : decode cX2_chainOpenTellings 54 = .ok (.aload_n 2, 1) := by decide +kernel
theorem dX2_chainOpenTellings_55 : decode cX2_chainOpenTellings 55 = .ok (.invokevirtual 71, 3) := by decide +kernel
theorem dX2_chainOpenTellings_58 : decode cX2_chainOpenTellings 58 = .ok (.istore_n 3, 1) := by decide +kernel
theorem dX2_chainOpenTellings_59 : decode cX2_chainOpenTellings 59 = .ok (.iload_n 3, 1) := by decide +kernel
theorem dX2_chainOpenTellings_60 : decode cX2_chainOpenTellings 60 = .ok (.ifCond .lt 27, 3) := by decide +kernel
theorem dX2_chainOpenTellings_63 : decode cX2_chainOpenTellings 63 = .ok (.iload_n 3, 1) := by decide +kernel
theorem dX2_chainOpenTellings_64 : decode cX2_chainOpenTellings 64 = .ok (.sipush 600, 3) := by decide +kernel
theorem dX2_chainOpenTellings_67 : decode cX2_chainOpenTellings 67 = .ok (.if_icmp .ge 20, 3) := by decide +kernel
theorem dX2_chainOpenTellings_70 : decode cX2_chainOpenTellings 70 = .ok (.aload_n 2, 1) := by decide +kernel
theorem dX2_chainOpenTellings_71 : decode cX2_chainOpenTellings 71 = .ok (.aload_n 0, 1) := by decide +kernel
theorem dX2_chainOpenTellings_72 : decode cX2_chainOpenTellings 72 = .ok (.getfield 23, 3) := by decide +kernel
theorem dX2_chainOpenTellings_75 : decode cX2_chainOpenTellings 75 = .ok (.iload_n 3, 1) := by decide +kernel
theorem dX2_chainOpenTellings_76 : decode cX2_chainOpenTellings 76 = .ok (.aaload, 1) := by decide +kernel
theorem dX2_chainOpenTellings_77 : decode cX2_chainOpenTellings 77 = .ok (.putfield 75, 3) := by decide +kernel
theorem dX2_chainOpenTellings_80 : decode cX2_chainOpenTellings 80 = .ok (.aload_n 0, 1) := by decide +kernel
theorem dX2_chainOpenTellings_81 : decode cX2_chainOpenTellings 81 = .ok (.getfield 23, 3) := by decide +kernel
theorem dX2_chainOpenTellings_84 : decode cX2_chainOpenTellings 84 = .ok (.iload_n 3, 1) := by decide +kernel
theorem dX2_chainOpenTellings_85 : decode cX2_chainOpenTellings 85 = .ok (.aload_n 2, 1) := by decide +kernel
theorem dX2_chainOpenTellings_86 : decode cX2_chainOpenTellings 86 = .ok (.aastore, 1) := by decide +kernel
theorem dX2_chainOpenTellings_87 : decode cX2_chainOpenTellings 87 = .ok (.iinc 1 (-1), 3) := by decide +kernel
theorem dX2_chainOpenTellings_90 : decode cX2_chainOpenTellings 90 = .ok (.goto (-61), 3) := by decide +kernel
theorem dX2_chainOpenTellings_93 : decode cX2_chainOpenTellings 93 = .ok (.return_, 1) := by decide +kernel
theorem dX2_pairGroup_0 : decode cX2_pairGroup 0 = .ok (.aload_n 0, 1) := by decide +kernel
theorem dX2_pairGroup_1 : decode cX2_pairGroup 1 = .ok (.getfield 29, 3) := by decide +kernel
theorem dX2_pairGroup_4 : decode cX2_pairGroup 4 = .ok (.invokevirtual 78, 3) := by decide +kernel
theorem dX2_pairGroup_7 : decode cX2_pairGroup 7 = .ok (.aload_n 0, 1) := by decide +kernel
theorem dX2_pairGroup_8 : decode cX2_pairGroup 8 = .ok (.getfield 23, 3) := by decide +kernel
theorem dX2_pairGroup_11 : decode cX2_pairGroup 11 = .ok (.iload_n 1, 1) := by decide +kernel
theorem dX2_pairGroup_12 : decode cX2_pairGroup 12 = .ok (.aaload, 1) := by decide +kernel
theorem dX2_pairGroup_13 : decode cX2_pairGroup 13 = .ok (.astore 4, 2) := by decide +kernel
theorem dX2_pairGroup_15 : decode cX2_pairGroup 15 = .ok (.aload 4, 2) := by decide +kernel
theorem dX2_pairGroup_17 : decode cX2_pairGroup 17 = .ok (.ifnull 22, 3) := by decide +kernel
theorem dX2_pairGroup_20 : decode cX2_pairGroup 20 = .ok (.aload_n 0, 1) := by decide +kernel
theorem dX2_pairGroup_21 : decode cX2_pairGroup 21 = .ok (.getfield 29, 3) := by decide +kernel
theorem dX2_pairGroup_24 : decode cX2_pairGroup 24 = .ok (.aload 4, 2) := by decide +kernel
theorem dX2_pairGroup_26 : decode cX2_pairGroup 26 = .ok (.invokevirtual 81, 3) := by decide +kernel
theorem dX2_pairGroup_29 : decode cX2_pairGroup 29 = .ok (.aload 4, 2) := by decide +kernel
theorem dX2_pairGroup_31 : decode cX2_pairGroup 31 = .ok (.getfield 75, 3) := by decide +kernel
theorem dX2_pairGroup_34 : decode cX2_pairGroup 34 = .ok (.astore 4, 2) := by decide +kernel
theorem dX2_pairGroup_36 : decode cX2_pairGroup 36 = .ok (.goto (-21), 3) := by decide +kernel
theorem dX2_pairGroup_39 : decode cX2_pairGroup 39 = .ok (.aload_n 0, 1) := by decide +kernel
theorem dX2_pairGroup_40 : decode cX2_pairGroup 40 = .ok (.getfield 29, 3) := by decide +kernel
theorem dX2_pairGroup_43 : decode cX2_pairGroup 43 = .ok (.invokevirtual 85, 3) := by decide +kernel
theorem dX2_pairGroup_46 : decode cX2_pairGroup 46 = .ok (.ifCond .ne 5, 3) := by decide +kernel
theorem dX2_pairGroup_49 : decode cX2_pairGroup 49 = .ok (.iconst 0, 1) := by decide +kernel
theorem dX2_pairGroup_50 : decode cX2_pairGroup 50 = .ok (.ireturn, 1) := by decide +kernel
theorem dX2_pairGroup_51 : decode cX2_pairGroup 51 = .ok (.aload_n 0, 1) := by decide +kernel
theorem dX2_pairGroup_52 : decode cX2_pairGroup 52 = .ok (.getfield 29, 3) := by decide +kernel
theorem dX2_pairGroup_55 : decode cX2_pairGroup 55 = .ok (.invokevirtual 88, 3) := by decide +kernel
theorem dX2_pairGroup_58 : decode cX2_pairGroup 58 = .ok (.iconst 0, 1) := by decide +kernel
theorem dX2_pairGroup_59 : decode cX2_pairGroup 59 = .ok (.istore 4, 2) := by decide +kernel
theorem dX2_pairGroup_61 : decode cX2_pairGroup 61 = .ok (.iconst 0, 1) := by decide +kernel
theorem dX2_pairGroup_62 : decode cX2_pairGroup 62 = .ok (.istore 5, 2) := by decide +kernel
theorem dX2_pairGroup_64 : decode cX2_pairGroup 64 = .ok (.iload 5, 2) := by decide +kernel
theorem dX2_pairGroup_66 : decode cX2_pairGroup 66 = .ok (.bipush 8, 2) := by decide +kernel
theorem dX2_pairGroup_68 : decode cX2_pairGroup 68 = .ok (.if_icmp .ge 69, 3) := by decide +kernel
theorem dX2_pairGroup_71 : decode cX2_pairGroup 71 = .ok (.iload 4, 2) := by decide +kernel
theorem dX2_pairGroup_73 : decode cX2_pairGroup 73 = .ok (.iload_n 3, 1) := by decide +kernel
theorem dX2_pairGroup_74 : decode cX2_pairGroup 74 = .ok (.if_icmp .ge 63, 3) := by decide +kernel
theorem dX2_pairGroup_77 : decode cX2_pairGroup 77 = .ok (.aload_n 0, 1) := by decide +kernel
theorem dX2_pairGroup_78 : decode cX2_pairGroup 78 = .ok (.getfield 29, 3) := by decide +kernel
theorem dX2_pairGroup_81 : decode cX2_pairGroup 81 = .ok (.iload 5, 2) := by decide +kernel
theorem dX2_pairGroup_83 : decode cX2_pairGroup 83 = .ok (.invokevirtual 91, 3) := by decide +kernel
theorem dX2_pairGroup_86 : decode cX2_pairGroup 86 = .ok (.astore 6, 2) := by decide +kernel
theorem dX2_pairGroup_88 : decode cX2_pairGroup 88 = .ok (.aload_n 0, 1) := by decide +kernel
theorem dX2_pairGroup_89 : decode cX2_pairGroup 89 = .ok (.getfield 29, 3) := by decide +kernel
theorem dX2_pairGroup_92 : decode cX2_pairGroup 92 = .ok (.iload 5, 2) := by decide +kernel
theorem dX2_pairGroup_94 : decode cX2_pairGroup 94 = .ok (.invokevirtual 95, 3) := by decide +kernel
theorem dX2_pairGroup_97 : decode cX2_pairGroup 97 = .ok (.astore 7, 2) := by decide +kernel
theorem dX2_pairGroup_99 : decode cX2_pairGroup 99 = .ok (.aload 6, 2) := by decide +kernel
theorem dX2_pairGroup_101 : decode cX2_pairGroup 101 = .ok (.ifnull 30, 3) := by decide +kernel
theorem dX2_pairGroup_104 : decode cX2_pairGroup 104 = .ok (.aload 7, 2) := by decide +kernel
theorem dX2_pairGroup_106 : decode cX2_pairGroup 106 = .ok (.ifnull 25, 3) := by decide +kernel
theorem dX2_pairGroup_109 : decode cX2_pairGroup 109 = .ok (.aload_n 0, 1) := by decide +kernel
theorem dX2_pairGroup_110 : decode cX2_pairGroup 110 = .ok (.getfield 37, 3) := by decide +kernel
theorem dX2_pairGroup_113 : decode cX2_pairGroup 113 = .ok (.sipush 200, 3) := by decide +kernel
theorem dX2_pairGroup_116 : decode cX2_pairGroup 116 = .ok (.if_icmp .ge 15, 3) := by decide +kernel
theorem dX2_pairGroup_119 : decode cX2_pairGroup 119 = .ok (.aload_n 0, 1) := by decide +kernel
theorem dX2_pairGroup_120 : decode cX2_pairGroup 120 = .ok (.aload 6, 2) := by decide +kernel
theorem dX2_pairGroup_122 : decode cX2_pairGroup 122 = .ok (.aload 7, 2) := by decide +kernel
theorem dX2_pairGroup_124 : decode cX2_pairGroup 124 = .ok (.iload_n 2, 1) := by decide +kernel
theorem dX2_pairGroup_125 : decode cX2_pairGroup 125 = .ok (.invokevirtual 98, 3) := by decide +kernel
theorem dX2_pairGroup_128 : decode cX2_pairGroup 128 = .ok (.iinc 4 1, 3) := by decide +kernel
theorem dX2_pairGroup_131 : decode cX2_pairGroup 131 = .ok (.iinc 5 1, 3) := by decide +kernel
theorem dX2_pairGroup_134 : decode cX2_pairGroup 134 = .ok (.goto (-70), 3) := by decide +kernel
theorem dX2_pairGroup_137 : decode cX2_pairGroup 137 = .ok (.iload 4, 2) := by decide +kernel
theorem dX2_pairGroup_139 : decode cX2_pairGroup 139 = .ok (.ireturn, 1) := by decide +kernel
theorem dX2_keepPair_0 : decode cX2_keepPair 0 = .ok (.aload_n 1, 1) := by decide +kernel
theorem dX2_keepPair_1 : decode cX2_keepPair 1 = .ok (.iconst 1, 1) := by decide +kernel
theorem dX2_keepPair_2 : decode cX2_keepPair 2 = .ok (.putfield 40, 3) := by decide +kernel
theorem dX2_keepPair_5 : decode cX2_keepPair 5 = .ok (.aload_n 2, 1) := by decide +kernel
theorem dX2_keepPair_6 : decode cX2_keepPair 6 = .ok (.iconst 1, 1) := by decide +kernel
theorem dX2_keepPair_7 : decode cX2_keepPair 7 = .ok (.putfield 40, 3) := by decide +kernel
theorem dX2_keepPair_10 : decode cX2_keepPair 10 = .ok (.aload_n 1, 1) := by decide +kernel
theorem dX2_keepPair_11 : decode cX2_keepPair 11 = .ok (.aload_n 0, 1) := by decide +kernel
theorem dX2_keepPair_12 : decode cX2_keepPair 12 = .ok (.getfield 37, 3) := by decide +kernel
theorem dX2_keepPair_15 : decode cX2_keepPair 15 = .ok (.putfield 102, 3) := by decide +kernel
theorem dX2_keepPair_18 : decode cX2_keepPair 18 = .ok (.aload_n 2, 1) := by decide +kernel
theorem dX2_keepPair_19 : decode cX2_keepPair 19 = .ok (.aload_n 0, 1) := by decide +kernel
theorem dX2_keepPair_20 : decode cX2_keepPair 20 = .ok (.getfield 37, 3) := by decide +kernel
theorem dX2_keepPair_23 : decode cX2_keepPair 23 = .ok (.putfield 102, 3) := by decide +kernel
theorem dX2_keepPair_26 : decode cX2_keepPair 26 = .ok (.aload_n 0, 1) := by decide +kernel
theorem dX2_keepPair_27 : decode cX2_keepPair 27 = .ok (.getfield 19, 3) := by decide +kernel
theorem dX2_keepPair_30 : decode cX2_keepPair 30 = .ok (.aload_n 0, 1) := by decide +kernel
theorem dX2_keepPair_31 : decode cX2_keepPair 31 = .ok (.getfield 37, 3) := by decide +kernel
theorem dX2_keepPair_34 : decode cX2_keepPair 34 = .ok (.new 17, 3) := by decide +kernel
theorem dX2_keepPair_37 : decode cX2_keepPair 37 = .ok (.dup, 1) := by decide +kernel
theorem dX2_keepPair_38 : decode cX2_keepPair 38 = .ok (.aload_n 1, 1) := by decide +kernel
theorem dX2_keepPair_39 : decode cX2_keepPair 39 = .ok (.aload_n 2, 1) := by decide +kernel
theorem dX2_keepPair_40 : decode cX2_keepPair 40 = .ok (.iload_n 3, 1) := by decide +kernel
theorem dX2_keepPair_41 : decode cX2_keepPair 41 = .ok (.aload_n 1, 1) := by decide +kernel
theorem dX2_keepPair_42 : decode cX2_keepPair 42 = .ok (.aload_n 2, 1) := by decide +kernel
theorem dX2_keepPair_43 : decode cX2_keepPair 43 = .ok (.invokestatic 105, 3) := by decide +kernel
theorem dX2_keepPair_46 : decode cX2_keepPair 46 = .ok (.invokespecial 109, 3) := by decide +kernel
theorem dX2_keepPair_49 : decode cX2_keepPair 49 = .ok (.aastore, 1) := by decide +kernel
theorem dX2_keepPair_50 : decode cX2_keepPair 50 = .ok (.aload_n 0, 1) := by decide +kernel
theorem dX2_keepPair_51 : decode cX2_keepPair 51 = .ok (.dup, 1) := by decide +kernel
theorem dX2_keepPair_52 : decode cX2_keepPair 52 = .ok (.getfield 37, 3) := by decide +kernel
theorem dX2_keepPair_55 : decode cX2_keepPair 55 = .ok (.iconst 1, 1) := by decide +kernel
theorem dX2_keepPair_56 : decode cX2_keepPair 56 = .ok (.iadd, 1) := by decide +kernel
theorem dX2_keepPair_57 : decode cX2_keepPair 57 = .ok (.putfield 37, 3) := by decide +kernel
theorem dX2_keepPair_60 : decode cX2_keepPair 60 = .ok (.return_, 1) := by decide +kernel
theorem dX2_countedBy_0 : decode cX2_countedBy 0 = .ok (.iload_n 0, 1) := by decide +kernel
theorem dX2_countedBy_1 : decode cX2_countedBy 1 = .ok (.tableswitch 56 1 3 #[27, 39, 51], 27) := by decide +kernel
theorem dX2_countedBy_28 : decode cX2_countedBy 28 = .ok (.aload_n 1, 1) := by decide +kernel
theorem dX2_countedBy_29 : decode cX2_countedBy 29 = .ok (.getfield 111, 3) := by decide +kernel
theorem dX2_countedBy_32 : decode cX2_countedBy 32 = .ok (.aload_n 2, 1) := by decide +kernel
theorem dX2_countedBy_33 : decode cX2_countedBy 33 = .ok (.getfield 111, 3) := by decide +kernel
theorem dX2_countedBy_36 : decode cX2_countedBy 36 = .ok (.invokestatic 114, 3) := by decide +kernel
theorem dX2_countedBy_39 : decode cX2_countedBy 39 = .ok (.ireturn, 1) := by decide +kernel
theorem dX2_countedBy_40 : decode cX2_countedBy 40 = .ok (.aload_n 1, 1) := by decide +kernel
theorem dX2_countedBy_41 : decode cX2_countedBy 41 = .ok (.getfield 111, 3) := by decide +kernel
theorem dX2_countedBy_44 : decode cX2_countedBy 44 = .ok (.aload_n 2, 1) := by decide +kernel
theorem dX2_countedBy_45 : decode cX2_countedBy 45 = .ok (.getfield 111, 3) := by decide +kernel
theorem dX2_countedBy_48 : decode cX2_countedBy 48 = .ok (.invokestatic 120, 3) := by decide +kernel
theorem dX2_countedBy_51 : decode cX2_countedBy 51 = .ok (.ireturn, 1) := by decide +kernel
theorem dX2_countedBy_52 : decode cX2_countedBy 52 = .ok (.aload_n 1, 1) := by decide +kernel
theorem dX2_countedBy_53 : decode cX2_countedBy 53 = .ok (.getfield 111, 3) := by decide +kernel
theorem dX2_countedBy_56 : decode cX2_countedBy 56 = .ok (.ireturn, 1) := by decide +kernel
theorem dX2_countedBy_57 : decode cX2_countedBy 57 = .ok (.aload_n 2, 1) := by decide +kernel
theorem dX2_countedBy_58 : decode cX2_countedBy 58 = .ok (.getfield 111, 3) := by decide +kernel
theorem dX2_countedBy_61 : decode cX2_countedBy 61 = .ok (.ireturn, 1) := by decide +kernel
theorem dX3_init_0 : decode cX3_init 0 = .ok (.aload_n 0, 1) := by decide +kernel
theorem dX3_init_1 : decode cX3_init 1 = .ok (.invokespecial 3, 3) := by decide +kernel
theorem dX3_init_4 : decode cX3_init 4 = .ok (.aload_n 0, 1) := by decide +kernel
theorem dX3_init_5 : decode cX3_init 5 = .ok (.sipush 2000, 3) := by decide +kernel
theorem dX3_init_8 : decode cX3_init 8 = .ok (.newarray .int, 2) := by decide +kernel
theorem dX3_init_10 : decode cX3_init 10 = .ok (.putfield 9, 3) := by decide +kernel
theorem dX3_init_13 : decode cX3_init 13 = .ok (.aload_n 0, 1) := by decide +kernel
theorem dX3_init_14 : decode cX3_init 14 = .ok (.sipush 2000, 3) := by decide +kernel
theorem dX3_init_17 : decode cX3_init 17 = .ok (.newarray .int, 2) := by decide +kernel
theorem dX3_init_19 : decode cX3_init 19 = .ok (.putfield 15, 3) := by decide +kernel
theorem dX3_init_22 : decode cX3_init 22 = .ok (.aload_n 0, 1) := by decide +kernel
theorem dX3_init_23 : decode cX3_init 23 = .ok (.sipush 2000, 3) := by decide +kernel
theorem dX3_init_26 : decode cX3_init 26 = .ok (.newarray .int, 2) := by decide +kernel
theorem dX3_init_28 : decode cX3_init 28 = .ok (.putfield 18, 3) := by decide +kernel
theorem dX3_init_31 : decode cX3_init 31 = .ok (.aload_n 0, 1) := by decide +kernel
theorem dX3_init_32 : decode cX3_init 32 = .ok (.sipush 180, 3) := by decide +kernel
theorem dX3_init_35 : decode cX3_init 35 = .ok (.newarray .int, 2) := by decide +kernel
theorem dX3_init_37 : decode cX3_init 37 = .ok (.putfield 21, 3) := by decide +kernel
theorem dX3_init_40 : decode cX3_init 40 = .ok (.return_, 1) := by decide +kernel
theorem dX3_room_0 : decode cX3_room 0 = .ok (.sipush 2000, 3) := by decide +kernel
theorem dX3_room_3 : decode cX3_room 3 = .ok (.aload_n 0, 1) := by decide +kernel
theorem dX3_room_4 : decode cX3_room 4 = .ok (.getfield 24, 3) := by decide +kernel
theorem dX3_room_7 : decode cX3_room 7 = .ok (.isub, 1) := by decide +kernel
theorem dX3_room_8 : decode cX3_room 8 = .ok (.ireturn, 1) := by decide +kernel
theorem dX3_enter_0 : decode cX3_enter 0 = .ok (.aload_n 0, 1) := by decide +kernel
theorem dX3_enter_1 : decode cX3_enter 1 = .ok (.getfield 24, 3) := by decide +kernel
theorem dX3_enter_4 : decode cX3_enter 4 = .ok (.sipush 2000, 3) := by decide +kernel
theorem dX3_enter_7 : decode cX3_enter 7 = .ok (.if_icmp .lt 4, 3) := by decide +kernel
theorem dX3_enter_10 : decode cX3_enter 10 = .ok (.return_, 1) := by decide +kernel
theorem dX3_enter_11 : decode cX3_enter 11 = .ok (.aload_n 0, 1) := by decide +kernel
theorem dX3_enter_12 : decode cX3_enter 12 = .ok (.getfield 9, 3) := by decide +kernel
theorem dX3_enter_15 : decode cX3_enter 15 = .ok (.aload_n 0, 1) := by decide +kernel
theorem dX3_enter_16 : decode cX3_enter 16 = .ok (.getfield 24, 3) := by decide +kernel
theorem dX3_enter_19 : decode cX3_enter 19 = .ok (.iload_n 1, 1) := by decide +kernel
theorem dX3_enter_20 : decode cX3_enter 20 = .ok (.bipush 6, 2) := by decide +kernel
theorem dX3_enter_22 : decode cX3_enter 22 = .ok (.imul, 1) := by decide +kernel
theorem dX3_enter_23 : decode cX3_enter 23 = .ok (.iload_n 2, 1) := by decide +kernel
theorem dX3_enter_24 : decode cX3_enter 24 = .ok (.iadd, 1) := by decide +kernel
theorem dX3_enter_25 : decode cX3_enter 25 = .ok (.iastore, 1) := by decide +kernel
theorem dX3_enter_26 : decode cX3_enter 26 = .ok (.aload_n 0, 1) := by decide +kernel
theorem dX3_enter_27 : decode cX3_enter 27 = .ok (.getfield 15, 3) := by decide +kernel
theorem dX3_enter_30 : decode cX3_enter 30 = .ok (.aload_n 0, 1) := by decide +kernel
theorem dX3_enter_31 : decode cX3_enter 31 = .ok (.getfield 24, 3) := by decide +kernel
theorem dX3_enter_34 : decode cX3_enter 34 = .ok (.iload_n 3, 1) := by decide +kernel
theorem dX3_enter_35 : decode cX3_enter 35 = .ok (.aload_n 0, 1) := by decide +kernel
theorem dX3_enter_36 : decode cX3_enter 36 = .ok (.getfield 28, 3) := by decide +kernel
theorem dX3_enter_39 : decode cX3_enter 39 = .ok (.bipush 30, 2) := by decide +kernel
theorem dX3_enter_41 : decode cX3_enter 41 = .ok (.imul, 1) := by decide +kernel
theorem dX3_enter_42 : decode cX3_enter 42 = .ok (.invokestatic 31, 3) := by decide +kernel
theorem dX3_enter_45 : decode cX3_enter 45 = .ok (.iastore, 1) := by decide +kernel
theorem dX3_enter_46 : decode cX3_enter 46 = .ok (.aload_n 0, 1) := by decide +kernel
theorem dX3_enter_47 : decode cX3_enter 47 = .ok (.getfield 18, 3) := by decide +kernel
theorem dX3_enter_50 : decode cX3_enter 50 = .ok (.aload_n 0, 1) := by decide +kernel
theorem dX3_enter_51 : decode cX3_enter 51 = .ok (.getfield 24, 3) := by decide +kernel
theorem dX3_enter_54 : decode cX3_enter 54 = .ok (.iload 4, 2) := by decide +kernel
theorem dX3_enter_56 : decode cX3_enter 56 = .ok (.iastore, 1) := by decide +kernel
theorem dX3_enter_57 : decode cX3_enter 57 = .ok (.aload_n 0, 1) := by decide +kernel
theorem dX3_enter_58 : decode cX3_enter 58 = .ok (.dup, 1) := by decide +kernel
theorem dX3_enter_59 : decode cX3_enter 59 = .ok (.getfield 24, 3) := by decide +kernel
theorem dX3_enter_62 : decode cX3_enter 62 = .ok (.iconst 1, 1) := by decide +kernel
theorem dX3_enter_63 : decode cX3_enter 63 = .ok (.iadd, 1) := by decide +kernel
theorem dX3_enter_64 : decode cX3_enter 64 = .ok (.putfield 24, 3) := by decide +kernel
theorem dX3_enter_67 : decode cX3_enter 67 = .ok (.return_, 1) := by decide +kernel
theorem dX3_sumUpTo_0 : decode cX3_sumUpTo 0 = .ok (.iload_n 1, 1) := by decide +kernel
theorem dX3_sumUpTo_1 : decode cX3_sumUpTo 1 = .ok (.bipush 6, 2) := by decide +kernel
theorem dX3_sumUpTo_3 : decode cX3_sumUpTo 3 = .ok (.imul, 1) := by decide +kernel
theorem dX3_sumUpTo_4 : decode cX3_sumUpTo 4 = .ok (.iload_n 2, 1) := by decide +kernel
theorem dX3_sumUpTo_5 : decode cX3_sumUpTo 5 = .ok (.iadd, 1) := by decide +kernel
theorem dX3_sumUpTo_6 : decode cX3_sumUpTo 6 = .ok (.istore 4, 2) := by decide +kernel
theorem dX3_sumUpTo_8 : decode cX3_sumUpTo 8 = .ok (.iconst 0, 1) := by decide +kernel
theorem dX3_sumUpTo_9 : decode cX3_sumUpTo 9 = .ok (.istore 5, 2) := by decide +kernel
theorem dX3_sumUpTo_11 : decode cX3_sumUpTo 11 = .ok (.iconst 0, 1) := by decide +kernel
theorem dX3_sumUpTo_12 : decode cX3_sumUpTo 12 = .ok (.istore 6, 2) := by decide +kernel
theorem dX3_sumUpTo_14 : decode cX3_sumUpTo 14 = .ok (.iload 6, 2) := by decide +kernel
theorem dX3_sumUpTo_16 : decode cX3_sumUpTo 16 = .ok (.aload_n 0, 1) := by decide +kernel
theorem dX3_sumUpTo_17 : decode cX3_sumUpTo 17 = .ok (.getfield 24, 3) := by decide +kernel
theorem dX3_sumUpTo_20 : decode cX3_sumUpTo 20 = .ok (.if_icmp .ge 44, 3) := by decide +kernel
theorem dX3_sumUpTo_23 : decode cX3_sumUpTo 23 = .ok (.aload_n 0, 1) := by decide +kernel
theorem dX3_sumUpTo_24 : decode cX3_sumUpTo 24 = .ok (.getfield 9, 3) := by decide +kernel
theorem dX3_sumUpTo_27 : decode cX3_sumUpTo 27 = .ok (.iload 6, 2) := by decide +kernel
theorem dX3_sumUpTo_29 : decode cX3_sumUpTo 29 = .ok (.iaload, 1) := by decide +kernel
theorem dX3_sumUpTo_30 : decode cX3_sumUpTo 30 = .ok (.iload 4, 2) := by decide +kernel
theorem dX3_sumUpTo_32 : decode cX3_sumUpTo 32 = .ok (.if_icmp .ne 26, 3) := by decide +kernel
theorem dX3_sumUpTo_35 : decode cX3_sumUpTo 35 = .ok (.aload_n 0, 1) := by decide +kernel
theorem dX3_sumUpTo_36 : decode cX3_sumUpTo 36 = .ok (.getfield 15, 3) := by decide +kernel
theorem dX3_sumUpTo_39 : decode cX3_sumUpTo 39 = .ok (.iload 6, 2) := by decide +kernel
theorem dX3_sumUpTo_41 : decode cX3_sumUpTo 41 = .ok (.iaload, 1) := by decide +kernel
theorem dX3_sumUpTo_42 : decode cX3_sumUpTo 42 = .ok (.iload_n 3, 1) := by decide +kernel
theorem dX3_sumUpTo_43 : decode cX3_sumUpTo 43 = .ok (.if_icmp .gt 15, 3) := by decide +kernel
theorem dX3_sumUpTo_46 : decode cX3_sumUpTo 46 = .ok (.iload 5, 2) := by decide +kernel
theorem dX3_sumUpTo_48 : decode cX3_sumUpTo 48 = .ok (.aload_n 0, 1) := by decide +kernel
theorem dX3_sumUpTo_49 : decode cX3_sumUpTo 49 = .ok (.getfield 18, 3) := by decide +kernel
theorem dX3_sumUpTo_52 : decode cX3_sumUpTo 52 = .ok (.iload 6, 2) := by decide +kernel
theorem dX3_sumUpTo_54 : decode cX3_sumUpTo 54 = .ok (.iaload, 1) := by decide +kernel
theorem dX3_sumUpTo_55 : decode cX3_sumUpTo 55 = .ok (.iadd, 1) := by decide +kernel
theorem dX3_sumUpTo_56 : decode cX3_sumUpTo 56 = .ok (.istore 5, 2) := by decide +kernel
theorem dX3_sumUpTo_58 : decode cX3_sumUpTo 58 = .ok (.iinc 6 1, 3) := by decide +kernel
theorem dX3_sumUpTo_61 : decode cX3_sumUpTo 61 = .ok (.goto (-47), 3) := by decide +kernel
theorem dX3_sumUpTo_64 : decode cX3_sumUpTo 64 = .ok (.iload 5, 2) := by decide +kernel
theorem dX3_sumUpTo_66 : decode cX3_sumUpTo 66 = .ok (.ireturn, 1) := by decide +kernel
theorem dX3_sumOfKind_0 : decode cX3_sumOfKind 0 = .ok (.iconst 0, 1) := by decide +kernel
theorem dX3_sumOfKind_1 : decode cX3_sumOfKind 1 = .ok (.istore_n 2, 1) := by decide +kernel
theorem dX3_sumOfKind_2 : decode cX3_sumOfKind 2 = .ok (.iconst 0, 1) := by decide +kernel
theorem dX3_sumOfKind_3 : decode cX3_sumOfKind 3 = .ok (.istore_n 3, 1) := by decide +kernel
theorem dX3_sumOfKind_4 : decode cX3_sumOfKind 4 = .ok (.iload_n 3, 1) := by decide +kernel
theorem dX3_sumOfKind_5 : decode cX3_sumOfKind 5 = .ok (.aload_n 0, 1) := by decide +kernel
theorem dX3_sumOfKind_6 : decode cX3_sumOfKind 6 = .ok (.getfield 24, 3) := by decide +kernel
theorem dX3_sumOfKind_9 : decode cX3_sumOfKind 9 = .ok (.if_icmp .ge 31, 3) := by decide +kernel
theorem dX3_sumOfKind_12 : decode cX3_sumOfKind 12 = .ok (.aload_n 0, 1) := by decide +kernel
theorem dX3_sumOfKind_13 : decode cX3_sumOfKind 13 = .ok (.getfield 9, 3) := by decide +kernel
theorem dX3_sumOfKind_16 : decode cX3_sumOfKind 16 = .ok (.iload_n 3, 1) := by decide +kernel
theorem dX3_sumOfKind_17 : decode cX3_sumOfKind 17 = .ok (.iaload, 1) := by decide +kernel
theorem dX3_sumOfKind_18 : decode cX3_sumOfKind 18 = .ok (.bipush 6, 2) := by decide +kernel
theorem dX3_sumOfKind_20 : decode cX3_sumOfKind 20 = .ok (.irem, 1) := by decide +kernel
theorem dX3_sumOfKind_21 : decode cX3_sumOfKind 21 = .ok (.iload_n 1, 1) := by decide +kernel
theorem dX3_sumOfKind_22 : decode cX3_sumOfKind 22 = .ok (.if_icmp .ne 12, 3) := by decide +kernel
theorem dX3_sumOfKind_25 : decode cX3_sumOfKind 25 = .ok (.iload_n 2, 1) := by decide +kernel
theorem dX3_sumOfKind_26 : decode cX3_sumOfKind 26 = .ok (.aload_n 0, 1) := by decide +kernel
theorem dX3_sumOfKind_27 : decode cX3_sumOfKind 27 = .ok (.getfield 18, 3) := by decide +kernel
theorem dX3_sumOfKind_30 : decode cX3_sumOfKind 30 = .ok (.iload_n 3, 1) := by decide +kernel
theorem dX3_sumOfKind_31 : decode cX3_sumOfKind 31 = .ok (.iaload, 1) := by decide +kernel
theorem dX3_sumOfKind_32 : decode cX3_sumOfKind 32 = .ok (.iadd, 1) := by decide +kernel
theorem dX3_sumOfKind_33 : decode cX3_sumOfKind 33 = .ok (.istore_n 2, 1) := by decide +kernel
theorem dX3_sumOfKind_34 : decode cX3_sumOfKind 34 = .ok (.iinc 3 1, 3) := by decide +kernel
theorem dX3_sumOfKind_37 : decode cX3_sumOfKind 37 = .ok (.goto (-33), 3) := by decide +kernel
theorem dX3_sumOfKind_40 : decode cX3_sumOfKind 40 = .ok (.iload_n 2, 1) := by decide +kernel
theorem dX3_sumOfKind_41 : decode cX3_sumOfKind 41 = .ok (.ireturn, 1) := by decide +kernel
theorem dX3_feesOfMonth_0 : decode cX3_feesOfMonth 0 = .ok (.aload_n 0, 1) := by decide +kernel
theorem dX3_feesOfMonth_1 : decode cX3_feesOfMonth 1 = .ok (.iload_n 1, 1) := by decide +kernel
theorem dX3_feesOfMonth_2 : decode cX3_feesOfMonth 2 = .ok (.iload_n 2, 1) := by decide +kernel
theorem dX3_feesOfMonth_3 : decode cX3_feesOfMonth 3 = .ok (.bipush 30, 2) := by decide +kernel
theorem dX3_feesOfMonth_5 : decode cX3_feesOfMonth 5 = .ok (.imul, 1) := by decide +kernel
theorem dX3_feesOfMonth_6 : decode cX3_feesOfMonth 6 = .ok (.invokevirtual 37, 3) := by decide +kernel
theorem dX3_feesOfMonth_9 : decode cX3_feesOfMonth 9 = .ok (.lconst 0, 1) := by decide +kernel
theorem dX3_feesOfMonth_10 : decode cX3_feesOfMonth 10 = .ok (.lstore 4, 2) := by decide +kernel
theorem dX3_feesOfMonth_12 : decode cX3_feesOfMonth 12 = .ok (.iconst 0, 1) := by decide +kernel
theorem dX3_feesOfMonth_13 : decode cX3_feesOfMonth 13 = .ok (.istore 6, 2) := by decide +kernel
theorem dX3_feesOfMonth_15 : decode cX3_feesOfMonth 15 = .ok (.iload 6, 2) := by decide +kernel
theorem dX3_feesOfMonth_17 : decode cX3_feesOfMonth 17 = .ok (.bipush 6, 2) := by decide +kernel
theorem dX3_feesOfMonth_19 : decode cX3_feesOfMonth 19 = .ok (.if_icmp .ge 33, 3) := by decide +kernel
theorem dX3_feesOfMonth_22 : decode cX3_feesOfMonth 22 = .ok (.iload 6, 2) := by decide +kernel
theorem dX3_feesOfMonth_24 : decode cX3_feesOfMonth 24 = .ok (.aload_n 3, 1) := by decide +kernel
theorem dX3_feesOfMonth_25 : decode cX3_feesOfMonth 25 = .ok (.arraylength, 1) := by decide +kernel
theorem dX3_feesOfMonth_26 : decode cX3_feesOfMonth 26 = .ok (.if_icmp .ge 26, 3) := by decide +kernel
theorem dX3_feesOfMonth_29 : decode cX3_feesOfMonth 29 = .ok (.lload 4, 2) := by decide +kernel
theorem dX3_feesOfMonth_31 : decode cX3_feesOfMonth 31 = .ok (.aload_n 0, 1) := by decide +kernel
theorem dX3_feesOfMonth_32 : decode cX3_feesOfMonth 32 = .ok (.iload 6, 2) := by decide +kernel
theorem dX3_feesOfMonth_34 : decode cX3_feesOfMonth 34 = .ok (.invokevirtual 41, 3) := by decide +kernel
theorem dX3_feesOfMonth_37 : decode cX3_feesOfMonth 37 = .ok (.aload_n 3, 1) := by decide +kernel
theorem dX3_feesOfMonth_38 : decode cX3_feesOfMonth 38 = .ok (.iload 6, 2) := by decide +kernel
theorem dX3_feesOfMonth_40 : decode cX3_feesOfMonth 40 = .ok (.iaload, 1) := by decide +kernel
theorem dX3_feesOfMonth_41 : decode cX3_feesOfMonth 41 = .ok (.i2l, 1) := by decide +kernel
theorem dX3_feesOfMonth_42 : decode cX3_feesOfMonth 42 = .ok (.lmul, 1) := by decide +kernel
theorem dX3_feesOfMonth_43 : decode cX3_feesOfMonth 43 = .ok (.ladd, 1) := by decide +kernel
theorem dX3_feesOfMonth_44 : decode cX3_feesOfMonth 44 = .ok (.lstore 4, 2) := by decide +kernel
theorem dX3_feesOfMonth_46 : decode cX3_feesOfMonth 46 = .ok (.iinc 6 1, 3) := by decide +kernel
theorem dX3_feesOfMonth_49 : decode cX3_feesOfMonth 49 = .ok (.goto (-34), 3) := by decide +kernel
theorem dX3_feesOfMonth_52 : decode cX3_feesOfMonth 52 = .ok (.lload 4, 2) := by decide +kernel
theorem dX3_feesOfMonth_54 : decode cX3_feesOfMonth 54 = .ok (.lreturn, 1) := by decide +kernel
theorem dX3_gatherChanges_0 : decode cX3_gatherChanges 0 = .ok (.aload_n 0, 1) := by decide +kernel
theorem dX3_gatherChanges_1 : decode cX3_gatherChanges 1 = .ok (.getfield 21, 3) := by decide +kernel
theorem dX3_gatherChanges_4 : decode cX3_gatherChanges 4 = .ok (.iconst 0, 1) := by decide +kernel
theorem dX3_gatherChanges_5 : decode cX3_gatherChanges 5 = .ok (.invokestatic 45, 3) := by decide +kernel
theorem dX3_gatherChanges_8 : decode cX3_gatherChanges 8 = .ok (.iconst 0, 1) := by decide +kernel
theorem dX3_gatherChanges_9 : decode cX3_gatherChanges 9 = .ok (.istore_n 3, 1) := by decide +kernel
theorem dX3_gatherChanges_10 : decode cX3_gatherChanges 10 = .ok (.iload_n 3, 1) := by decide +kernel
theorem dX3_gatherChanges_11 : decode cX3_gatherChanges 11 = .ok (.aload_n 0, 1) := by decide +kernel
theorem dX3_gatherChanges_12 : decode cX3_gatherChanges 12 = .ok (.getfield 24, 3) := by decide +kernel
theorem dX3_gatherChanges_15 : decode cX3_gatherChanges 15 = .ok (.if_icmp .ge 77, 3) := by decide +kernel
theorem dX3_gatherChanges_18 : decode cX3_gatherChanges 18 = .ok (.aload_n 0, 1) := by decide +kernel
theorem dX3_gatherChanges_19 : decode cX3_gatherChanges 19 = .ok (.getfield 9, 3) := by decide +kernel
theorem dX3_gatherChanges_22 : decode cX3_gatherChanges 22 = .ok (.iload_n 3, 1) := by decide +kernel
theorem dX3_gatherChanges_23 : decode cX3_gatherChanges 23 = .ok (.iaload, 1) := by decide +kernel
theorem dX3_gatherChanges_24 : decode cX3_gatherChanges 24 = .ok (.iload_n 1, 1) := by decide +kernel
theorem dX3_gatherChanges_25 : decode cX3_gatherChanges 25 = .ok (.bipush 6, 2) := by decide +kernel
theorem dX3_gatherChanges_27 : decode cX3_gatherChanges 27 = .ok (.imul, 1) := by decide +kernel
theorem dX3_gatherChanges_28 : decode cX3_gatherChanges 28 = .ok (.isub, 1) := by decide +kernel
theorem dX3_gatherChanges_29 : decode cX3_gatherChanges 29 = .ok (.istore 4, 2) := by decide +kernel
theorem dX3_gatherChanges_31 : decode cX3_gatherChanges 31 = .ok (.aload_n 0, 1) := by decide +kernel
theorem dX3_gatherChanges_32 : decode cX3_gatherChanges 32 = .ok (.getfield 15, 3) := by decide +kernel
theorem dX3_gatherChanges_35 : decode cX3_gatherChanges 35 = .ok (.iload_n 3, 1) := by decide +kernel
theorem dX3_gatherChanges_36 : decode cX3_gatherChanges 36 = .ok (.iaload, 1) := by decide +kernel
theorem dX3_gatherChanges_37 : decode cX3_gatherChanges 37 = .ok (.iload_n 2, 1) := by decide +kernel
theorem dX3_gatherChanges_38 : decode cX3_gatherChanges 38 = .ok (.isub, 1) := by decide +kernel
theorem dX3_gatherChanges_39 : decode cX3_gatherChanges 39 = .ok (.iconst 0, 1) := by decide +kernel
theorem dX3_gatherChanges_40 : decode cX3_gatherChanges 40 = .ok (.invokestatic 31, 3) := by decide +kernel
theorem dX3_gatherChanges_43 : decode cX3_gatherChanges 43 = .ok (.istore 5, 2) := by decide +kernel
theorem dX3_gatherChanges_45 : decode cX3_gatherChanges 45 = .ok (.iload 4, 2) := by decide +kernel
theorem dX3_gatherChanges_47 : decode cX3_gatherChanges 47 = .ok (.ifCond .lt 39, 3) := by decide +kernel
theorem dX3_gatherChanges_50 : decode cX3_gatherChanges 50 = .ok (.iload 4, 2) := by decide +kernel
theorem dX3_gatherChanges_52 : decode cX3_gatherChanges 52 = .ok (.bipush 6, 2) := by decide +kernel
theorem dX3_gatherChanges_54 : decode cX3_gatherChanges 54 = .ok (.if_icmp .ge 32, 3) := by decide +kernel
theorem dX3_gatherChanges_57 : decode cX3_gatherChanges 57 = .ok (.iload 5, 2) := by decide +kernel
theorem dX3_gatherChanges_59 : decode cX3_gatherChanges 59 = .ok (.bipush 30, 2) := by decide +kernel
theorem dX3_gatherChanges_61 : decode cX3_gatherChanges 61 = .ok (.if_icmp .ge 25, 3) := by decide +kernel
theorem dX3_gatherChanges_64 : decode cX3_gatherChanges 64 = .ok (.aload_n 0, 1) := by decide +kernel
theorem dX3_gatherChanges_65 : decode cX3_gatherChanges 65 = .ok (.getfield 21, 3) := by decide +kernel
theorem dX3_gatherChanges_68 : decode cX3_gatherChanges 68 = .ok (.iload 4, 2) := by decide +kernel
theorem dX3_gatherChanges_70 : decode cX3_gatherChanges 70 = .ok (.bipush 30, 2) := by decide +kernel
theorem dX3_gatherChanges_72 : decode cX3_gatherChanges 72 = .ok (.imul, 1) := by decide +kernel
theorem dX3_gatherChanges_73 : decode cX3_gatherChanges 73 = .ok (.iload 5, 2) := by decide +kernel
theorem dX3_gatherChanges_75 : decode cX3_gatherChanges 75 = .ok (.iadd, 1) := by decide +kernel
theorem dX3_gatherChanges_76 : decode cX3_gatherChanges 76 = .ok (.dup2, 1) := by decide +kernel
theorem dX3_gatherChanges_77 : decode cX3_gatherChanges 77 = .ok (.iaload, 1) := by decide +kernel
theorem dX3_gatherChanges_78 : decode cX3_gatherChanges 78 = .ok (.aload_n 0, 1) := by decide +kernel
theorem dX3_gatherChanges_79 : decode cX3_gatherChanges 79 = .ok (.getfield 18, 3) := by decide +kernel
theorem dX3_gatherChanges_82 : decode cX3_gatherChanges 82 = .ok (.iload_n 3, 1) := by decide +kernel
theorem dX3_gatherChanges_83 : decode cX3_gatherChanges 83 = .ok (.iaload, 1) := by decide +kernel
theorem dX3_gatherChanges_84 : decode cX3_gatherChanges 84 = .ok (.iadd, 1) := by decide +kernel
theorem dX3_gatherChanges_85 : decode cX3_gatherChanges 85 = .ok (.iastore, 1) := by decide +kernel
theorem dX3_gatherChanges_86 : decode cX3_gatherChanges 86 = .ok (.iinc 3 1, 3) := by decide +kernel
theorem dX3_gatherChanges_89 : decode cX3_gatherChanges 89 = .ok (.goto (-79), 3) := by decide +kernel
theorem dX3_gatherChanges_92 : decode cX3_gatherChanges 92 = .ok (.return_, 1) := by decide +kernel
theorem dX3_daySums_0 : decode cX3_daySums 0 = .ok (.lconst 0, 1) := by decide +kernel
theorem dX3_daySums_1 : decode cX3_daySums 1 = .ok (.lstore_n 2, 1) := by decide +kernel
theorem dX3_daySums_2 : decode cX3_daySums 2 = .ok (.iconst 0, 1) := by decide +kernel
theorem dX3_daySums_3 : decode cX3_daySums 3 = .ok (.istore 4, 2) := by decide +kernel
theorem dX3_daySums_5 : decode cX3_daySums 5 = .ok (.iconst 0, 1) := by decide +kernel
theorem dX3_daySums_6 : decode cX3_daySums 6 = .ok (.istore 5, 2) := by decide +kernel
theorem dX3_daySums_8 : decode cX3_daySums 8 = .ok (.iload 5, 2) := by decide +kernel
theorem dX3_daySums_10 : decode cX3_daySums 10 = .ok (.bipush 30, 2) := by decide +kernel
theorem dX3_daySums_12 : decode cX3_daySums 12 = .ok (.if_icmp .ge 36, 3) := by decide +kernel
theorem dX3_daySums_15 : decode cX3_daySums 15 = .ok (.iload 4, 2) := by decide +kernel
theorem dX3_daySums_17 : decode cX3_daySums 17 = .ok (.aload_n 0, 1) := by decide +kernel
theorem dX3_daySums_18 : decode cX3_daySums 18 = .ok (.getfield 21, 3) := by decide +kernel
theorem dX3_daySums_21 : decode cX3_daySums 21 = .ok (.iload_n 1, 1) := by decide +kernel
theorem dX3_daySums_22 : decode cX3_daySums 22 = .ok (.bipush 30, 2) := by decide +kernel
theorem dX3_daySums_24 : decode cX3_daySums 24 = .ok (.imul, 1) := by decide +kernel
theorem dX3_daySums_25 : decode cX3_daySums 25 = .ok (.iload 5, 2) := by decide +kernel
theorem dX3_daySums_27 : decode cX3_daySums 27 = .ok (.iadd, 1) := by decide +kernel
theorem dX3_daySums_28 : decode cX3_daySums 28 = .ok (.iaload, 1) := by decide +kernel
theorem dX3_daySums_29 : decode cX3_daySums 29 = .ok (.iadd, 1) := by decide +kernel
theorem dX3_daySums_30 : decode cX3_daySums 30 = .ok (.istore 4, 2) := by decide +kernel
theorem dX3_daySums_32 : decode cX3_daySums 32 = .ok (.lload_n 2, 1) := by decide +kernel
theorem dX3_daySums_33 : decode cX3_daySums 33 = .ok (.iload 4, 2) := by decide +kernel
theorem dX3_daySums_35 : decode cX3_daySums 35 = .ok (.iconst 0, 1) := by decide +kernel
theorem dX3_daySums_36 : decode cX3_daySums 36 = .ok (.invokestatic 31, 3) := by decide +kernel
theorem dX3_daySums_39 : decode cX3_daySums 39 = .ok (.i2l, 1) := by decide +kernel
theorem dX3_daySums_40 : decode cX3_daySums 40 = .ok (.ladd, 1) := by decide +kernel
theorem dX3_daySums_41 : decode cX3_daySums 41 = .ok (.lstore_n 2, 1) := by decide +kernel
theorem dX3_daySums_42 : decode cX3_daySums 42 = .ok (.iinc 5 1, 3) := by decide +kernel
theorem dX3_daySums_45 : decode cX3_daySums 45 = .ok (.goto (-37), 3) := by decide +kernel
theorem dX3_daySums_48 : decode cX3_daySums 48 = .ok (.lload_n 2, 1) := by decide +kernel
theorem dX3_daySums_49 : decode cX3_daySums 49 = .ok (.lreturn, 1) := by decide +kernel
theorem dX4_init_0 : decode cX4_init 0 = .ok (.aload_n 0, 1) := by decide +kernel
theorem dX4_init_1 : decode cX4_init 1 = .ok (.invokespecial 1, 3) := by decide +kernel
theorem dX4_init_4 : decode cX4_init 4 = .ok (.aload_n 0, 1) := by decide +kernel
theorem dX4_init_5 : decode cX4_init 5 = .ok (.bipush 8, 2) := by decide +kernel
theorem dX4_init_7 : decode cX4_init 7 = .ok (.anewarray 9, 3) := by decide +kernel
theorem dX4_init_10 : decode cX4_init 10 = .ok (.putfield 11, 3) := by decide +kernel
theorem dX4_init_13 : decode cX4_init 13 = .ok (.aload_n 0, 1) := by decide +kernel
theorem dX4_init_14 : decode cX4_init 14 = .ok (.bipush 8, 2) := by decide +kernel
theorem dX4_init_16 : decode cX4_init 16 = .ok (.anewarray 9, 3) := by decide +kernel
theorem dX4_init_19 : decode cX4_init 19 = .ok (.putfield 15, 3) := by decide +kernel
theorem dX4_init_22 : decode cX4_init 22 = .ok (.aload_n 0, 1) := by decide +kernel
theorem dX4_init_23 : decode cX4_init 23 = .ok (.sipush 256, 3) := by decide +kernel
theorem dX4_init_26 : decode cX4_init 26 = .ok (.newarray .long, 2) := by decide +kernel
theorem dX4_init_28 : decode cX4_init 28 = .ok (.putfield 18, 3) := by decide +kernel
theorem dX4_init_31 : decode cX4_init 31 = .ok (.aload_n 0, 1) := by decide +kernel
theorem dX4_init_32 : decode cX4_init 32 = .ok (.bipush 8, 2) := by decide +kernel
theorem dX4_init_34 : decode cX4_init 34 = .ok (.newarray .long, 2) := by decide +kernel
theorem dX4_init_36 : decode cX4_init 36 = .ok (.putfield 22, 3) := by decide +kernel
theorem dX4_init_39 : decode cX4_init 39 = .ok (.return_, 1) := by decide +kernel
theorem dX4_clear_0 : decode cX4_clear 0 = .ok (.aload_n 0, 1) := by decide +kernel
theorem dX4_clear_1 : decode cX4_clear 1 = .ok (.iconst 0, 1) := by decide +kernel
theorem dX4_clear_2 : decode cX4_clear 2 = .ok (.putfield 25, 3) := by decide +kernel
theorem dX4_clear_5 : decode cX4_clear 5 = .ok (.aload_n 0, 1) := by decide +kernel
theorem dX4_clear_6 : decode cX4_clear 6 = .ok (.iconst 0, 1) := by decide +kernel
theorem dX4_clear_7 : decode cX4_clear 7 = .ok (.putfield 29, 3) := by decide +kernel
theorem dX4_clear_10 : decode cX4_clear 10 = .ok (.aload_n 0, 1) := by decide +kernel
theorem dX4_clear_11 : decode cX4_clear 11 = .ok (.lconst 0, 1) := by decide +kernel
theorem dX4_clear_12 : decode cX4_clear 12 = .ok (.putfield 32, 3) := by decide +kernel
theorem dX4_clear_15 : decode cX4_clear 15 = .ok (.return_, 1) := by decide +kernel
theorem dX4_offer_0 : decode cX4_offer 0 = .ok (.aload_n 1, 1) := by decide +kernel
theorem dX4_offer_1 : decode cX4_offer 1 = .ok (.getfield 36, 3) := by decide +kernel
theorem dX4_offer_4 : decode cX4_offer 4 = .ok (.ifCond .eq 35, 3) := by decide +kernel
theorem dX4_offer_7 : decode cX4_offer 7 = .ok (.aload_n 0, 1) := by decide +kernel
theorem dX4_offer_8 : decode cX4_offer 8 = .ok (.getfield 25, 3) := by decide +kernel
theorem dX4_offer_11 : decode cX4_offer 11 = .ok (.bipush 8, 2) := by decide +kernel
theorem dX4_offer_13 : decode cX4_offer 13 = .ok (.if_icmp .ge 26, 3) := by decide +kernel
theorem dX4_offer_16 : decode cX4_offer 16 = .ok (.aload_n 0, 1) := by decide +kernel
theorem dX4_offer_17 : decode cX4_offer 17 = .ok (.getfield 11, 3) := by decide +kernel
theorem dX4_offer_20 : decode cX4_offer 20 = .ok (.aload_n 0, 1) := by decide +kernel
theorem dX4_offer_21 : decode cX4_offer 21 = .ok (.getfield 25, 3) := by decide +kernel
theorem dX4_offer_24 : decode cX4_offer 24 = .ok (.aload_n 1, 1) := by decide +kernel
theorem dX4_offer_25 : decode cX4_offer 25 = .ok (.aastore, 1) := by decide +kernel
theorem dX4_offer_26 : decode cX4_offer 26 = .ok (.aload_n 0, 1) := by decide +kernel
theorem dX4_offer_27 : decode cX4_offer 27 = .ok (.dup, 1) := by decide +kernel
theorem dX4_offer_28 : decode cX4_offer 28 = .ok (.getfield 25, 3) := by decide +kernel
theorem dX4_offer_31 : decode cX4_offer 31 = .ok (.iconst 1, 1) := by decide +kernel
theorem dX4_offer_32 : decode cX4_offer 32 = .ok (.iadd, 1) := by decide +kernel
theorem dX4_offer_33 : decode cX4_offer 33 = .ok (.putfield 25, 3) := by decide +kernel
theorem dX4_offer_36 : decode cX4_offer 36 = .ok (.goto 39, 3) := by decide +kernel
theorem dX4_offer_39 : decode cX4_offer 39 = .ok (.aload_n 1, 1) := by decide +kernel
theorem dX4_offer_40 : decode cX4_offer 40 = .ok (.getfield 36, 3) := by decide +kernel
theorem dX4_offer_43 : decode cX4_offer 43 = .ok (.ifCond .ne 32, 3) := by decide +kernel
theorem dX4_offer_46 : decode cX4_offer 46 = .ok (.aload_n 0, 1) := by decide +kernel
theorem dX4_offer_47 : decode cX4_offer 47 = .ok (.getfield 29, 3) := by decide +kernel
theorem dX4_offer_50 : decode cX4_offer 50 = .ok (.bipush 8, 2) := by decide +kernel
theorem dX4_offer_52 : decode cX4_offer 52 = .ok (.if_icmp .ge 23, 3) := by decide +kernel
theorem dX4_offer_55 : decode cX4_offer 55 = .ok (.aload_n 0, 1) := by decide +kernel
theorem dX4_offer_56 : decode cX4_offer 56 = .ok (.getfield 15, 3) := by decide +kernel
theorem dX4_offer_59 : decode cX4_offer 59 = .ok (.aload_n 0, 1) := by decide +kernel
theorem dX4_offer_60 : decode cX4_offer 60 = .ok (.getfield 29, 3) := by decide +kernel
theorem dX4_offer_63 : decode cX4_offer 63 = .ok (.aload_n 1, 1) := by decide +kernel
theorem dX4_offer_64 : decode cX4_offer 64 = .ok (.aastore, 1) := by decide +kernel
theorem dX4_offer_65 : decode cX4_offer 65 = .ok (.aload_n 0, 1) := by decide +kernel
theorem dX4_offer_66 : decode cX4_offer 66 = .ok (.dup, 1) := by decide +kernel
theorem dX4_offer_67 : decode cX4_offer 67 = .ok (.getfield 29, 3) := by decide +kernel
theorem dX4_offer_70 : decode cX4_offer 70 = .ok (.iconst 1, 1) := by decide +kernel
theorem dX4_offer_71 : decode cX4_offer 71 = .ok (.iadd, 1) := by decide +kernel
theorem dX4_offer_72 : decode cX4_offer 72 = .ok (.putfield 29, 3) := by decide +kernel
theorem dX4_offer_75 : decode cX4_offer 75 = .ok (.return_, 1) := by decide +kernel
theorem dX4_giveAt_0 : decode cX4_giveAt 0 = .ok (.iload_n 1, 1) := by decide +kernel
theorem dX4_giveAt_1 : decode cX4_giveAt 1 = .ok (.ifCond .lt 20, 3) := by decide +kernel
theorem dX4_giveAt_4 : decode cX4_giveAt 4 = .ok (.iload_n 1, 1) := by decide +kernel
theorem dX4_giveAt_5 : decode cX4_giveAt 5 = .ok (.aload_n 0, 1) := by decide +kernel
theorem dX4_giveAt_6 : decode cX4_giveAt 6 = .ok (.getfield 25, 3) := by decide +kernel
theorem dX4_giveAt_9 : decode cX4_giveAt 9 = .ok (.if_icmp .ge 12, 3) := by decide +kernel
theorem dX4_giveAt_12 : decode cX4_giveAt 12 = .ok (.aload_n 0, 1) := by decide +kernel
theorem dX4_giveAt_13 : decode cX4_giveAt 13 = .ok (.getfield 11, 3) := by decide +kernel
theorem dX4_giveAt_16 : decode cX4_giveAt 16 = .ok (.iload_n 1, 1) := by decide +kernel
theorem dX4_giveAt_17 : decode cX4_giveAt 17 = .ok (.aaload, 1) := by decide +kernel
theorem dX4_giveAt_18 : decode cX4_giveAt 18 = .ok (.goto 4, 3) := by decide +kernel
theorem dX4_giveAt_21 : decode cX4_giveAt 21 = .ok (.aconst_null, 1) := by decide +kernel
theorem dX4_giveAt_22 : decode cX4_giveAt 22 = .ok (.areturn, 1) := by decide +kernel
theorem dX4_takeAt_0 : decode cX4_takeAt 0 = .ok (.iload_n 1, 1) := by decide +kernel
theorem dX4_takeAt_1 : decode cX4_takeAt 1 = .ok (.ifCond .lt 20, 3) := by decide +kernel
theorem dX4_takeAt_4 : decode cX4_takeAt 4 = .ok (.iload_n 1, 1) := by decide +kernel
theorem dX4_takeAt_5 : decode cX4_takeAt 5 = .ok (.aload_n 0, 1) := by decide +kernel
theorem dX4_takeAt_6 : decode cX4_takeAt 6 = .ok (.getfield 29, 3) := by decide +kernel
theorem dX4_takeAt_9 : decode cX4_takeAt 9 = .ok (.if_icmp .ge 12, 3) := by decide +kernel
theorem dX4_takeAt_12 : decode cX4_takeAt 12 = .ok (.aload_n 0, 1) := by decide +kernel
theorem dX4_takeAt_13 : decode cX4_takeAt 13 = .ok (.getfield 15, 3) := by decide +kernel
theorem dX4_takeAt_16 : decode cX4_takeAt 16 = .ok (.iload_n 1, 1) := by decide +kernel
theorem dX4_takeAt_17 : decode cX4_takeAt 17 = .ok (.aaload, 1) := by decide +kernel
theorem dX4_takeAt_18 : decode cX4_takeAt 18 = .ok (.goto 4, 3) := by decide +kernel
theorem dX4_takeAt_21 : decode cX4_takeAt 21 = .ok (.aconst_null, 1) := by decide +kernel
theorem dX4_takeAt_22 : decode cX4_takeAt 22 = .ok (.areturn, 1) := by decide +kernel
theorem dX4_hasNear_0 : decode cX4_hasNear 0 = .ok (.iconst 0, 1) := by decide +kernel
theorem dX4_hasNear_1 : decode cX4_hasNear 1 = .ok (.istore_n 1, 1) := by decide +kernel
theorem dX4_hasNear_2 : decode cX4_hasNear 2 = .ok (.iload_n 1, 1) := by decide +kernel
theorem dX4_hasNear_3 : decode cX4_hasNear 3 = .ok (.aload_n 0, 1) := by decide +kernel
theorem dX4_hasNear_4 : decode cX4_hasNear 4 = .ok (.getfield 25, 3) := by decide +kernel
theorem dX4_hasNear_7 : decode cX4_hasNear 7 = .ok (.if_icmp .ge 43, 3) := by decide +kernel
theorem dX4_hasNear_10 : decode cX4_hasNear 10 = .ok (.iconst 0, 1) := by decide +kernel
theorem dX4_hasNear_11 : decode cX4_hasNear 11 = .ok (.istore_n 2, 1) := by decide +kernel
theorem dX4_hasNear_12 : decode cX4_hasNear 12 = .ok (.iload_n 2, 1) := by decide +kernel
theorem dX4_hasNear_13 : decode cX4_hasNear 13 = .ok (.aload_n 0, 1) := by decide +kernel
theorem dX4_hasNear_14 : decode cX4_hasNear 14 = .ok (.getfield 29, 3) := by decide +kernel
theorem dX4_hasNear_17 : decode cX4_hasNear 17 = .ok (.if_icmp .ge 27, 3) := by decide +kernel
theorem dX4_hasNear_20 : decode cX4_hasNear 20 = .ok (.aload_n 0, 1) := by decide +kernel
theorem dX4_hasNear_21 : decode cX4_hasNear 21 = .ok (.iload_n 1, 1) := by decide +kernel
theorem dX4_hasNear_22 : decode cX4_hasNear 22 = .ok (.invokevirtual 40, 3) := by decide +kernel
theorem dX4_hasNear_25 : decode cX4_hasNear 25 = .ok (.aload_n 0, 1) := by decide +kernel
theorem dX4_hasNear_26 : decode cX4_hasNear 26 = .ok (.iload_n 2, 1) := by decide +kernel
theorem dX4_hasNear_27 : decode cX4_hasNear 27 = .ok (.invokevirtual 44, 3) := by decide +kernel
theorem dX4_hasNear_30 : decode cX4_hasNear 30 = .ok (.invokestatic 47, 3) := by decide +kernel
theorem dX4_hasNear_33 : decode cX4_hasNear 33 = .ok (.ifCond .eq 5, 3) := by decide +kernel
theorem dX4_hasNear_36 : decode cX4_hasNear 36 = .ok (.iconst 1, 1) := by decide +kernel
theorem dX4_hasNear_37 : decode cX4_hasNear 37 = .ok (.ireturn, 1) := by decide +kernel
theorem dX4_hasNear_38 : decode cX4_hasNear 38 = .ok (.iinc 2 1, 3) := by decide +kernel
theorem dX4_hasNear_41 : decode cX4_hasNear 41 = .ok (.goto (-29), 3) := by decide +kernel
theorem dX4_hasNear_44 : decode cX4_hasNear 44 = .ok (.iinc 1 1, 3) := by decide +kernel
theorem dX4_hasNear_47 : decode cX4_hasNear 47 = .ok (.goto (-45), 3) := by decide +kernel
theorem dX4_hasNear_50 : decode cX4_hasNear 50 = .ok (.iconst 0, 1) := by decide +kernel
theorem dX4_hasNear_51 : decode cX4_hasNear 51 = .ok (.ireturn, 1) := by decide +kernel
theorem dX4_areNear_0 : decode cX4_areNear 0 = .ok (.aload_n 0, 1) := by decide +kernel
theorem dX4_areNear_1 : decode cX4_areNear 1 = .ok (.ifnull 27, 3) := by decide +kernel
theorem dX4_areNear_4 : decode cX4_areNear 4 = .ok (.aload_n 1, 1) := by decide +kernel
theorem dX4_areNear_5 : decode cX4_areNear 5 = .ok (.ifnull 23, 3) := by decide +kernel
theorem dX4_areNear_8 : decode cX4_areNear 8 = .ok (.aload_n 0, 1) := by decide +kernel
theorem dX4_areNear_9 : decode cX4_areNear 9 = .ok (.getfield 51, 3) := by decide +kernel
theorem dX4_areNear_12 : decode cX4_areNear 12 = .ok (.aload_n 1, 1) := by decide +kernel
theorem dX4_areNear_13 : decode cX4_areNear 13 = .ok (.getfield 51, 3) := by decide +kernel
theorem dX4_areNear_16 : decode cX4_areNear 16 = .ok (.isub, 1) := by decide +kernel
theorem dX4_areNear_17 : decode cX4_areNear 17 = .ok (.invokestatic 54, 3) := by decide +kernel
theorem dX4_areNear_20 : decode cX4_areNear 20 = .ok (.iconst 3, 1) := by decide +kernel
theorem dX4_areNear_21 : decode cX4_areNear 21 = .ok (.if_icmp .gt 7, 3) := by decide +kernel
theorem dX4_areNear_24 : decode cX4_areNear 24 = .ok (.iconst 1, 1) := by decide +kernel
theorem dX4_areNear_25 : decode cX4_areNear 25 = .ok (.goto 4, 3) := by decide +kernel
theorem dX4_areNear_28 : decode cX4_areNear 28 = .ok (.iconst 0, 1) := by decide +kernel
theorem dX4_areNear_29 : decode cX4_areNear 29 = .ok (.ireturn, 1) := by decide +kernel
theorem dX4_solve_0 : decode cX4_solve 0 = .ok (.iconst 1, 1) := by decide +kernel
theorem dX4_solve_1 : decode cX4_solve 1 = .ok (.aload_n 0, 1) := by decide +kernel
theorem dX4_solve_2 : decode cX4_solve 2 = .ok (.getfield 29, 3) := by decide +kernel
theorem dX4_solve_5 : decode cX4_solve 5 = .ok (.ishl, 1) := by decide +kernel
theorem dX4_solve_6 : decode cX4_solve 6 = .ok (.istore_n 1, 1) := by decide +kernel
theorem dX4_solve_7 : decode cX4_solve 7 = .ok (.iconst 0, 1) := by decide +kernel
theorem dX4_solve_8 : decode cX4_solve 8 = .ok (.istore_n 2, 1) := by decide +kernel
theorem dX4_solve_9 : decode cX4_solve 9 = .ok (.iload_n 2, 1) := by decide +kernel
theorem dX4_solve_10 : decode cX4_solve 10 = .ok (.iload_n 1, 1) := by decide +kernel
theorem dX4_solve_11 : decode cX4_solve 11 = .ok (.if_icmp .ge 27, 3) := by decide +kernel
theorem dX4_solve_14 : decode cX4_solve 14 = .ok (.iload_n 2, 1) := by decide +kernel
theorem dX4_solve_15 : decode cX4_solve 15 = .ok (.aload_n 0, 1) := by decide +kernel
theorem dX4_solve_16 : decode cX4_solve 16 = .ok (.getfield 18, 3) := by decide +kernel
theorem dX4_solve_19 : decode cX4_solve 19 = .ok (.arraylength, 1) := by decide +kernel
theorem dX4_solve_20 : decode cX4_solve 20 = .ok (.if_icmp .ge 18, 3) := by decide +kernel
theorem dX4_solve_23 : decode cX4_solve 23 = .ok (.aload_n 0, 1) := by decide +kernel
theorem dX4_solve_24 : decode cX4_solve 24 = .ok (.getfield 18, 3) := by decide +kernel
theorem dX4_solve_27 : decode cX4_solve 27 = .ok (.iload_n 2, 1) := by decide +kernel
theorem dX4_solve_28 : decode cX4_solve 28 = .ok (.ldc2_w 60, 3) := by decide +kernel
theorem dX4_solve_31 : decode cX4_solve 31 = .ok (.lastore, 1) := by decide +kernel
theorem dX4_solve_32 : decode cX4_solve 32 = .ok (.iinc 2 1, 3) := by decide +kernel
theorem dX4_solve_35 : decode cX4_solve 35 = .ok (.goto (-26), 3) := by decide +kernel
theorem dX4_solve_38 : decode cX4_solve 38 = .ok (.aload_n 0, 1) := by decide +kernel
theorem dX4_solve_39 : decode cX4_solve 39 = .ok (.getfield 18, 3) := by decide +kernel
theorem dX4_solve_42 : decode cX4_solve 42 = .ok (.iconst 0, 1) := by decide +kernel
theorem dX4_solve_43 : decode cX4_solve 43 = .ok (.lconst 0, 1) := by decide +kernel
theorem dX4_solve_44 : decode cX4_solve 44 = .ok (.lastore, 1) := by decide +kernel
theorem dX4_solve_45 : decode cX4_solve 45 = .ok (.iconst 0, 1) := by decide +kernel
theorem dX4_solve_46 : decode cX4_solve 46 = .ok (.istore_n 2, 1) := by decide +kernel
theorem dX4_solve_47 : decode cX4_solve 47 = .ok (.iload_n 2, 1) := by decide +kernel
theorem dX4_solve_48 : decode cX4_solve 48 = .ok (.aload_n 0, 1) := by decide +kernel
theorem dX4_solve_49 : decode cX4_solve 49 = .ok (.getfield 25, 3) := by decide +kernel
theorem dX4_solve_52 : decode cX4_solve 52 = .ok (.if_icmp .ge 42, 3) := by decide +kernel
theorem dX4_solve_55 : decode cX4_solve 55 = .ok (.iconst 0, 1) := by decide +kernel
theorem dX4_solve_56 : decode cX4_solve 56 = .ok (.istore_n 3, 1) := by decide +kernel
theorem dX4_solve_57 : decode cX4_solve 57 = .ok (.iload_n 3, 1) := by decide +kernel
theorem dX4_solve_58 : decode cX4_solve 58 = .ok (.aload_n 0, 1) := by decide +kernel
theorem dX4_solve_59 : decode cX4_solve 59 = .ok (.getfield 29, 3) := by decide +kernel
theorem dX4_solve_62 : decode cX4_solve 62 = .ok (.if_icmp .ge 21, 3) := by decide +kernel
theorem dX4_solve_65 : decode cX4_solve 65 = .ok (.aload_n 0, 1) := by decide +kernel
theorem dX4_solve_66 : decode cX4_solve 66 = .ok (.getfield 22, 3) := by decide +kernel
theorem dX4_solve_69 : decode cX4_solve 69 = .ok (.iload_n 3, 1) := by decide +kernel
theorem dX4_solve_70 : decode cX4_solve 70 = .ok (.aload_n 0, 1) := by decide +kernel
theorem dX4_solve_71 : decode cX4_solve 71 = .ok (.iload_n 2, 1) := by decide +kernel
theorem dX4_solve_72 : decode cX4_solve 72 = .ok (.iload_n 3, 1) := by decide +kernel
theorem dX4_solve_73 : decode cX4_solve 73 = .ok (.invokevirtual 62, 3) := by decide +kernel
theorem dX4_solve_76 : decode cX4_solve 76 = .ok (.lastore, 1) := by decide +kernel
theorem dX4_solve_77 : decode cX4_solve 77 = .ok (.iinc 3 1, 3) := by decide +kernel
theorem dX4_solve_80 : decode cX4_solve 80 = .ok (.goto (-23), 3) := by decide +kernel
theorem dX4_solve_83 : decode cX4_solve 83 = .ok (.aload_n 0, 1) := by decide +kernel
theorem dX4_solve_84 : decode cX4_solve 84 = .ok (.iload_n 1, 1) := by decide +kernel
theorem dX4_solve_85 : decode cX4_solve 85 = .ok (.invokevirtual 66, 3) := by decide +kernel
theorem dX4_solve_88 : decode cX4_solve 88 = .ok (.iinc 2 1, 3) := by decide +kernel
theorem dX4_solve_91 : decode cX4_solve 91 = .ok (.goto (-44), 3) := by decide +kernel
theorem dX4_solve_94 : decode cX4_solve 94 = .ok (.iconst 0, 1) := by decide +kernel
theorem dX4_solve_95 : decode cX4_solve 95 = .ok (.istore_n 2, 1) := by decide +kernel
theorem dX4_solve_96 : decode cX4_solve 96 = .ok (.iload_n 2, 1) := by decide +kernel
theorem dX4_solve_97 : decode cX4_solve 97 = .ok (.iload_n 1, 1) := by decide +kernel
theorem dX4_solve_98 : decode cX4_solve 98 = .ok (.if_icmp .ge 35, 3) := by decide +kernel
theorem dX4_solve_101 : decode cX4_solve 101 = .ok (.iload_n 2, 1) := by decide +kernel
theorem dX4_solve_102 : decode cX4_solve 102 = .ok (.aload_n 0, 1) := by decide +kernel
theorem dX4_solve_103 : decode cX4_solve 103 = .ok (.getfield 18, 3) := by decide +kernel
theorem dX4_solve_106 : decode cX4_solve 106 = .ok (.arraylength, 1) := by decide +kernel
theorem dX4_solve_107 : decode cX4_solve 107 = .ok (.if_icmp .ge 26, 3) := by decide +kernel
theorem dX4_solve_110 : decode cX4_solve 110 = .ok (.aload_n 0, 1) := by decide +kernel
theorem dX4_solve_111 : decode cX4_solve 111 = .ok (.aload_n 0, 1) := by decide +kernel
theorem dX4_solve_112 : decode cX4_solve 112 = .ok (.getfield 32, 3) := by decide +kernel
theorem dX4_solve_115 : decode cX4_solve 115 = .ok (.aload_n 0, 1) := by decide +kernel
theorem dX4_solve_116 : decode cX4_solve 116 = .ok (.getfield 18, 3) := by decide +kernel
theorem dX4_solve_119 : decode cX4_solve 119 = .ok (.iload_n 2, 1) := by decide +kernel
theorem dX4_solve_120 : decode cX4_solve 120 = .ok (.laload, 1) := by decide +kernel
theorem dX4_solve_121 : decode cX4_solve 121 = .ok (.invokestatic 70, 3) := by decide +kernel
theorem dX4_solve_124 : decode cX4_solve 124 = .ok (.putfield 32, 3) := by decide +kernel
theorem dX4_solve_127 : decode cX4_solve 127 = .ok (.iinc 2 1, 3) := by decide +kernel
theorem dX4_solve_130 : decode cX4_solve 130 = .ok (.goto (-34), 3) := by decide +kernel
theorem dX4_solve_133 : decode cX4_solve 133 = .ok (.return_, 1) := by decide +kernel
theorem dX4_scoreOf_0 : decode cX4_scoreOf 0 = .ok (.aload_n 0, 1) := by decide +kernel
theorem dX4_scoreOf_1 : decode cX4_scoreOf 1 = .ok (.iload_n 1, 1) := by decide +kernel
theorem dX4_scoreOf_2 : decode cX4_scoreOf 2 = .ok (.invokevirtual 40, 3) := by decide +kernel
theorem dX4_scoreOf_5 : decode cX4_scoreOf 5 = .ok (.astore_n 3, 1) := by decide +kernel
theorem dX4_scoreOf_6 : decode cX4_scoreOf 6 = .ok (.aload_n 0, 1) := by decide +kernel
theorem dX4_scoreOf_7 : decode cX4_scoreOf 7 = .ok (.iload_n 2, 1) := by decide +kernel
theorem dX4_scoreOf_8 : decode cX4_scoreOf 8 = .ok (.invokevirtual 44, 3) := by decide +kernel
theorem dX4_scoreOf_11 : decode cX4_scoreOf 11 = .ok (.astore 4, 2) := by decide +kernel
theorem dX4_scoreOf_13 : decode cX4_scoreOf 13 = .ok (.aload_n 3, 1) := by decide +kernel
theorem dX4_scoreOf_14 : decode cX4_scoreOf 14 = .ok (.aload 4, 2) := by decide +kernel
theorem dX4_scoreOf_16 : decode cX4_scoreOf 16 = .ok (.invokestatic 47, 3) := by decide +kernel
theorem dX4_scoreOf_19 : decode cX4_scoreOf 19 = .ok (.ifCond .ne 7, 3) := by decide +kernel
theorem dX4_scoreOf_22 : decode cX4_scoreOf 22 = .ok (.ldc2_w 60, 3) := by decide +kernel
theorem dX4_scoreOf_25 : decode cX4_scoreOf 25 = .ok (.lreturn, 1) := by decide +kernel
theorem dX4_scoreOf_26 : decode cX4_scoreOf 26 = .ok (.aload_n 3, 1) := by decide +kernel
theorem dX4_scoreOf_27 : decode cX4_scoreOf 27 = .ok (.getfield 51, 3) := by decide +kernel
theorem dX4_scoreOf_30 : decode cX4_scoreOf 30 = .ok (.aload 4, 2) := by decide +kernel
theorem dX4_scoreOf_32 : decode cX4_scoreOf 32 = .ok (.getfield 51, 3) := by decide +kernel
theorem dX4_scoreOf_35 : decode cX4_scoreOf 35 = .ok (.isub, 1) := by decide +kernel
theorem dX4_scoreOf_36 : decode cX4_scoreOf 36 = .ok (.invokestatic 54, 3) := by decide +kernel
theorem dX4_scoreOf_39 : decode cX4_scoreOf 39 = .ok (.i2l, 1) := by decide +kernel
theorem dX4_scoreOf_40 : decode cX4_scoreOf 40 = .ok (.lstore 5, 2) := by decide +kernel
theorem dX4_scoreOf_42 : decode cX4_scoreOf 42 = .ok (.bipush 8, 2) := by decide +kernel
theorem dX4_scoreOf_44 : decode cX4_scoreOf 44 = .ok (.iload_n 2, 1) := by decide +kernel
theorem dX4_scoreOf_45 : decode cX4_scoreOf 45 = .ok (.isub, 1) := by decide +kernel
theorem dX4_scoreOf_46 : decode cX4_scoreOf 46 = .ok (.i2l, 1) := by decide +kernel
theorem dX4_scoreOf_47 : decode cX4_scoreOf 47 = .ok (.lstore 7, 2) := by decide +kernel
theorem dX4_scoreOf_49 : decode cX4_scoreOf 49 = .ok (.ldc2_w 74, 3) := by decide +kernel
theorem dX4_scoreOf_52 : decode cX4_scoreOf 52 = .ok (.lload 5, 2) := by decide +kernel
theorem dX4_scoreOf_54 : decode cX4_scoreOf 54 = .ok (.ldc2_w 76, 3) := by decide +kernel
theorem dX4_scoreOf_57 : decode cX4_scoreOf 57 = .ok (.lmul, 1) := by decide +kernel
theorem dX4_scoreOf_58 : decode cX4_scoreOf 58 = .ok (.lsub, 1) := by decide +kernel
theorem dX4_scoreOf_59 : decode cX4_scoreOf 59 = .ok (.lload 7, 2) := by decide +kernel
theorem dX4_scoreOf_61 : decode cX4_scoreOf 61 = .ok (.iload_n 1, 1) := by decide +kernel
theorem dX4_scoreOf_62 : decode cX4_scoreOf 62 = .ok (.invokestatic 78, 3) := by decide +kernel
theorem dX4_scoreOf_65 : decode cX4_scoreOf 65 = .ok (.lshl, 1) := by decide +kernel
theorem dX4_scoreOf_66 : decode cX4_scoreOf 66 = .ok (.ladd, 1) := by decide +kernel
theorem dX4_scoreOf_67 : decode cX4_scoreOf 67 = .ok (.lreturn, 1) := by decide +kernel
theorem dX4_addGive_0 : decode cX4_addGive 0 = .ok (.iload_n 1, 1) := by decide +kernel
theorem dX4_addGive_1 : decode cX4_addGive 1 = .ok (.aload_n 0, 1) := by decide +kernel
theorem dX4_addGive_2 : decode cX4_addGive 2 = .ok (.getfield 18, 3) := by decide +kernel
theorem dX4_addGive_5 : decode cX4_addGive 5 = .ok (.arraylength, 1) := by decide +kernel
theorem dX4_addGive_6 : decode cX4_addGive 6 = .ok (.invokestatic 81, 3) := by decide +kernel
theorem dX4_addGive_9 : decode cX4_addGive 9 = .ok (.iconst 1, 1) := by decide +kernel
theorem dX4_addGive_10 : decode cX4_addGive 10 = .ok (.isub, 1) := by decide +kernel
theorem dX4_addGive_11 : decode cX4_addGive 11 = .ok (.istore_n 2, 1) := by decide +kernel
theorem dX4_addGive_12 : decode cX4_addGive 12 = .ok (.iload_n 2, 1) := by decide +kernel
theorem dX4_addGive_13 : decode cX4_addGive 13 = .ok (.ifCond .le 102, 3) := by decide +kernel
theorem dX4_addGive_16 : decode cX4_addGive 16 = .ok (.iconst 0, 1) := by decide +kernel
theorem dX4_addGive_17 : decode cX4_addGive 17 = .ok (.istore_n 3, 1) := by decide +kernel
theorem dX4_addGive_18 : decode cX4_addGive 18 = .ok (.iload_n 3, 1) := by decide +kernel
theorem dX4_addGive_19 : decode cX4_addGive 19 = .ok (.aload_n 0, 1) := by decide +kernel
theorem dX4_addGive_20 : decode cX4_addGive 20 = .ok (.getfield 29, 3) := by decide +kernel
theorem dX4_addGive_23 : decode cX4_addGive 23 = .ok (.if_icmp .ge 86, 3) := by decide +kernel
theorem dX4_addGive_26 : decode cX4_addGive 26 = .ok (.iload_n 3, 1) := by decide +kernel
theorem dX4_addGive_27 : decode cX4_addGive 27 = .ok (.bipush 8, 2) := by decide +kernel
theorem dX4_addGive_29 : decode cX4_addGive 29 = .ok (.if_icmp .ge 80, 3) := by decide +kernel
theorem dX4_addGive_32 : decode cX4_addGive 32 = .ok (.iload_n 2, 1) := by decide +kernel
theorem dX4_addGive_33 : decode cX4_addGive 33 = .ok (.iconst 1, 1) := by decide +kernel
theorem dX4_addGive_34 : decode cX4_addGive 34 = .ok (.iload_n 3, 1) := by decide +kernel
theorem dX4_addGive_35 : decode cX4_addGive 35 = .ok (.ishl, 1) := by decide +kernel
theorem dX4_addGive_36 : decode cX4_addGive 36 = .ok (.iconst (-1), 1) := by decide +kernel
theorem dX4_addGive_37 : decode cX4_addGive 37 = .ok (.ixor, 1) := by decide +kernel
theorem dX4_addGive_38 : decode cX4_addGive 38 = .ok (.iand, 1) := by decide +kernel
theorem dX4_addGive_39 : decode cX4_addGive 39 = .ok (.istore 4, 2) := by decide +kernel
theorem dX4_addGive_41 : decode cX4_addGive 41 = .ok (.iload 4, 2) := by decide +kernel
theorem dX4_addGive_43 : decode cX4_addGive 43 = .ok (.iload_n 2, 1) := by decide +kernel
theorem dX4_addGive_44 : decode cX4_addGive 44 = .ok (.if_icmp .eq 59, 3) := by decide +kernel
theorem dX4_addGive_47 : decode cX4_addGive 47 = .ok (.aload_n 0, 1) := by decide +kernel
theorem dX4_addGive_48 : decode cX4_addGive 48 = .ok (.getfield 22, 3) := by decide +kernel
theorem dX4_addGive_51 : decode cX4_addGive 51 = .ok (.iload_n 3, 1) := by decide +kernel
theorem dX4_addGive_52 : decode cX4_addGive 52 = .ok (.laload, 1) := by decide +kernel
theorem dX4_addGive_53 : decode cX4_addGive 53 = .ok (.ldc2_w 60, 3) := by decide +kernel
theorem dX4_addGive_56 : decode cX4_addGive 56 = .ok (.lcmp, 1) := by decide +kernel
theorem dX4_addGive_57 : decode cX4_addGive 57 = .ok (.ifCond .eq 46, 3) := by decide +kernel
theorem dX4_addGive_60 : decode cX4_addGive 60 = .ok (.aload_n 0, 1) := by decide +kernel
theorem dX4_addGive_61 : decode cX4_addGive 61 = .ok (.getfield 18, 3) := by decide +kernel
theorem dX4_addGive_64 : decode cX4_addGive 64 = .ok (.iload 4, 2) := by decide +kernel
theorem dX4_addGive_66 : decode cX4_addGive 66 = .ok (.laload, 1) := by decide +kernel
theorem dX4_addGive_67 : decode cX4_addGive 67 = .ok (.ldc2_w 60, 3) := by decide +kernel
theorem dX4_addGive_70 : decode cX4_addGive 70 = .ok (.lcmp, 1) := by decide +kernel
theorem dX4_addGive_71 : decode cX4_addGive 71 = .ok (.ifCond .eq 32, 3) := by decide +kernel
theorem dX4_addGive_74 : decode cX4_addGive 74 = .ok (.aload_n 0, 1) := by decide +kernel
theorem dX4_addGive_75 : decode cX4_addGive 75 = .ok (.getfield 18, 3) := by decide +kernel
theorem dX4_addGive_78 : decode cX4_addGive 78 = .ok (.iload_n 2, 1) := by decide +kernel
theorem dX4_addGive_79 : decode cX4_addGive 79 = .ok (.aload_n 0, 1) := by decide +kernel
theorem dX4_addGive_80 : decode cX4_addGive 80 = .ok (.getfield 18, 3) := by decide +kernel
theorem dX4_addGive_83 : decode cX4_addGive 83 = .ok (.iload_n 2, 1) := by decide +kernel
theorem dX4_addGive_84 : decode cX4_addGive 84 = .ok (.laload, 1) := by decide +kernel
theorem dX4_addGive_85 : decode cX4_addGive 85 = .ok (.aload_n 0, 1) := by decide +kernel
theorem dX4_addGive_86 : decode cX4_addGive 86 = .ok (.getfield 18, 3) := by decide +kernel
theorem dX4_addGive_89 : decode cX4_addGive 89 = .ok (.iload 4, 2) := by decide +kernel
theorem dX4_addGive_91 : decode cX4_addGive 91 = .ok (.laload, 1) := by decide +kernel
theorem dX4_addGive_92 : decode cX4_addGive 92 = .ok (.aload_n 0, 1) := by decide +kernel
theorem dX4_addGive_93 : decode cX4_addGive 93 = .ok (.getfield 22, 3) := by decide +kernel
theorem dX4_addGive_96 : decode cX4_addGive 96 = .ok (.iload_n 3, 1) := by decide +kernel
theorem dX4_addGive_97 : decode cX4_addGive 97 = .ok (.laload, 1) := by decide +kernel
theorem dX4_addGive_98 : decode cX4_addGive 98 = .ok (.ladd, 1) := by decide +kernel
theorem dX4_addGive_99 : decode cX4_addGive 99 = .ok (.invokestatic 70, 3) := by decide +kernel
theorem dX4_addGive_102 : decode cX4_addGive 102 = .ok (.lastore, 1) := by decide +kernel
theorem dX4_addGive_103 : decode cX4_addGive 103 = .ok (.iinc 3 1, 3) := by decide +kernel
theorem dX4_addGive_106 : decode cX4_addGive 106 = .ok (.goto (-88), 3) := by decide +kernel
theorem dX4_addGive_109 : decode cX4_addGive 109 = .ok (.iinc 2 (-1), 3) := by decide +kernel
theorem dX4_addGive_112 : decode cX4_addGive 112 = .ok (.goto (-100), 3) := by decide +kernel
theorem dX4_addGive_115 : decode cX4_addGive 115 = .ok (.return_, 1) := by decide +kernel
theorem dX4_shiftOf_0 : decode cX4_shiftOf 0 = .ok (.iconst 4, 1) := by decide +kernel
theorem dX4_shiftOf_1 : decode cX4_shiftOf 1 = .ok (.bipush 7, 2) := by decide +kernel
theorem dX4_shiftOf_3 : decode cX4_shiftOf 3 = .ok (.iload_n 0, 1) := by decide +kernel
theorem dX4_shiftOf_4 : decode cX4_shiftOf 4 = .ok (.isub, 1) := by decide +kernel
theorem dX4_shiftOf_5 : decode cX4_shiftOf 5 = .ok (.imul, 1) := by decide +kernel
theorem dX4_shiftOf_6 : decode cX4_shiftOf 6 = .ok (.ireturn, 1) := by decide +kernel
theorem dX4_takeFor_0 : decode cX4_takeFor 0 = .ok (.iload_n 1, 1) := by decide +kernel
theorem dX4_takeFor_1 : decode cX4_takeFor 1 = .ok (.ifCond .lt 11, 3) := by decide +kernel
theorem dX4_takeFor_4 : decode cX4_takeFor 4 = .ok (.iload_n 1, 1) := by decide +kernel
theorem dX4_takeFor_5 : decode cX4_takeFor 5 = .ok (.aload_n 0, 1) := by decide +kernel
theorem dX4_takeFor_6 : decode cX4_takeFor 6 = .ok (.getfield 25, 3) := by decide +kernel
theorem dX4_takeFor_9 : decode cX4_takeFor 9 = .ok (.if_icmp .lt 5, 3) := by decide +kernel
theorem dX4_takeFor_12 : decode cX4_takeFor 12 = .ok (.aconst_null, 1) := by decide +kernel
theorem dX4_takeFor_13 : decode cX4_takeFor 13 = .ok (.areturn, 1) := by decide +kernel
theorem dX4_takeFor_14 : decode cX4_takeFor 14 = .ok (.aload_n 0, 1) := by decide +kernel
theorem dX4_takeFor_15 : decode cX4_takeFor 15 = .ok (.getfield 32, 3) := by decide +kernel
theorem dX4_takeFor_18 : decode cX4_takeFor 18 = .ok (.iload_n 1, 1) := by decide +kernel
theorem dX4_takeFor_19 : decode cX4_takeFor 19 = .ok (.invokestatic 78, 3) := by decide +kernel
theorem dX4_takeFor_22 : decode cX4_takeFor 22 = .ok (.lshr, 1) := by decide +kernel
theorem dX4_takeFor_23 : decode cX4_takeFor 23 = .ok (.l2i, 1) := by decide +kernel
theorem dX4_takeFor_24 : decode cX4_takeFor 24 = .ok (.bipush 15, 2) := by decide +kernel
theorem dX4_takeFor_26 : decode cX4_takeFor 26 = .ok (.iand, 1) := by decide +kernel
theorem dX4_takeFor_27 : decode cX4_takeFor 27 = .ok (.istore_n 2, 1) := by decide +kernel
theorem dX4_takeFor_28 : decode cX4_takeFor 28 = .ok (.iload_n 2, 1) := by decide +kernel
theorem dX4_takeFor_29 : decode cX4_takeFor 29 = .ok (.ifCond .ne 7, 3) := by decide +kernel
theorem dX4_takeFor_32 : decode cX4_takeFor 32 = .ok (.aconst_null, 1) := by decide +kernel
theorem dX4_takeFor_33 : decode cX4_takeFor 33 = .ok (.goto 11, 3) := by decide +kernel
theorem dX4_takeFor_36 : decode cX4_takeFor 36 = .ok (.aload_n 0, 1) := by decide +kernel
theorem dX4_takeFor_37 : decode cX4_takeFor 37 = .ok (.bipush 8, 2) := by decide +kernel
theorem dX4_takeFor_39 : decode cX4_takeFor 39 = .ok (.iload_n 2, 1) := by decide +kernel
theorem dX4_takeFor_40 : decode cX4_takeFor 40 = .ok (.isub, 1) := by decide +kernel
theorem dX4_takeFor_41 : decode cX4_takeFor 41 = .ok (.invokevirtual 44, 3) := by decide +kernel
theorem dX4_takeFor_44 : decode cX4_takeFor 44 = .ok (.areturn, 1) := by decide +kernel
theorem dX5_init_0 : decode cX5_init 0 = .ok (.aload_n 0, 1) := by decide +kernel
theorem dX5_init_1 : decode cX5_init 1 = .ok (.invokespecial 1, 3) := by decide +kernel
theorem dX5_init_4 : decode cX5_init 4 = .ok (.aload_n 0, 1) := by decide +kernel
theorem dX5_init_5 : decode cX5_init 5 = .ok (.aload_n 1, 1) := by decide +kernel
theorem dX5_init_6 : decode cX5_init 6 = .ok (.putfield 7, 3) := by decide +kernel
theorem dX5_init_9 : decode cX5_init 9 = .ok (.aload_n 0, 1) := by decide +kernel
theorem dX5_init_10 : decode cX5_init 10 = .ok (.aload_n 2, 1) := by decide +kernel
theorem dX5_init_11 : decode cX5_init 11 = .ok (.putfield 13, 3) := by decide +kernel
theorem dX5_init_14 : decode cX5_init 14 = .ok (.aload_n 0, 1) := by decide +kernel
theorem dX5_init_15 : decode cX5_init 15 = .ok (.iload_n 3, 1) := by decide +kernel
theorem dX5_init_16 : decode cX5_init 16 = .ok (.putfield 16, 3) := by decide +kernel
theorem dX5_init_19 : decode cX5_init 19 = .ok (.return_, 1) := by decide +kernel
theorem dX5_isQuarrel_0 : decode cX5_isQuarrel 0 = .ok (.aload_n 0, 1) := by decide +kernel
theorem dX5_isQuarrel_1 : decode cX5_isQuarrel 1 = .ok (.getfield 7, 3) := by decide +kernel
theorem dX5_isQuarrel_4 : decode cX5_isQuarrel 4 = .ok (.getfield 20, 3) := by decide +kernel
theorem dX5_isQuarrel_7 : decode cX5_isQuarrel 7 = .ok (.aload_n 0, 1) := by decide +kernel
theorem dX5_isQuarrel_8 : decode cX5_isQuarrel 8 = .ok (.getfield 13, 3) := by decide +kernel
theorem dX5_isQuarrel_11 : decode cX5_isQuarrel 11 = .ok (.getfield 20, 3) := by decide +kernel
theorem dX5_isQuarrel_14 : decode cX5_isQuarrel 14 = .ok (.if_icmp .eq 7, 3) := by decide +kernel
theorem dX5_isQuarrel_17 : decode cX5_isQuarrel 17 = .ok (.iconst 1, 1) := by decide +kernel
theorem dX5_isQuarrel_18 : decode cX5_isQuarrel 18 = .ok (.goto 4, 3) := by decide +kernel
theorem dX5_isQuarrel_21 : decode cX5_isQuarrel 21 = .ok (.iconst 0, 1) := by decide +kernel
theorem dX5_isQuarrel_22 : decode cX5_isQuarrel 22 = .ok (.ireturn, 1) := by decide +kernel
theorem dX6_init_0 : decode cX6_init 0 = .ok (.aload_n 0, 1) := by decide +kernel
theorem dX6_init_1 : decode cX6_init 1 = .ok (.invokespecial 3, 3) := by decide +kernel
theorem dX6_init_4 : decode cX6_init 4 = .ok (.aload_n 0, 1) := by decide +kernel
