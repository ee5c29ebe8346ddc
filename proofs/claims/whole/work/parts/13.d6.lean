theorem dX11_nearestBefore_51 : decode cX11_nearestBefore 51 = .ok (.iload_n 3, 1) := by decide +kernel
theorem dX11_nearestBefore_52 : decode cX11_nearestBefore 52 = .ok (.aload_n 0, 1) := by decide +kernel
theorem dX11_nearestBefore_53 : decode cX11_nearestBefore 53 = .ok (.getfield 28, 3) := by decide +kernel
theorem dX11_nearestBefore_56 : decode cX11_nearestBefore 56 = .ok (.invokevirtual 312, 3) := by decide +kernel
theorem dX11_nearestBefore_59 : decode cX11_nearestBefore 59 = .ok (.aload_n 0, 1) := by decide +kernel
theorem dX11_nearestBefore_60 : decode cX11_nearestBefore 60 = .ok (.aload_n 0, 1) := by decide +kernel
theorem dX11_nearestBefore_61 : decode cX11_nearestBefore 61 = .ok (.getfield 28, 3) := by decide +kernel
theorem dX11_nearestBefore_64 : decode cX11_nearestBefore 64 = .ok (.iload_n 1, 1) := by decide +kernel
theorem dX11_nearestBefore_65 : decode cX11_nearestBefore 65 = .ok (.invokevirtual 161, 3) := by decide +kernel
theorem dX11_nearestBefore_68 : decode cX11_nearestBefore 68 = .ok (.istore 4, 2) := by decide +kernel
theorem dX11_nearestBefore_70 : decode cX11_nearestBefore 70 = .ok (.aload_n 0, 1) := by decide +kernel
theorem dX11_nearestBefore_71 : decode cX11_nearestBefore 71 = .ok (.getfield 12, 3) := by decide +kernel
theorem dX11_nearestBefore_74 : decode cX11_nearestBefore 74 = .ok (.iload 4, 2) := by decide +kernel
theorem dX11_nearestBefore_76 : decode cX11_nearestBefore 76 = .ok (.invokevirtual 165, 3) := by decide +kernel
theorem dX11_nearestBefore_79 : decode cX11_nearestBefore 79 = .ok (.iconst 1, 1) := by decide +kernel
theorem dX11_nearestBefore_80 : decode cX11_nearestBefore 80 = .ok (.if_icmp .ne 6, 3) := by decide +kernel
theorem dX11_nearestBefore_83 : decode cX11_nearestBefore 83 = .ok (.iload 4, 2) := by decide +kernel
theorem dX11_nearestBefore_85 : decode cX11_nearestBefore 85 = .ok (.ireturn, 1) := by decide +kernel
theorem dX11_nearestBefore_86 : decode cX11_nearestBefore 86 = .ok (.iinc 2 1, 3) := by decide +kernel
theorem dX11_nearestBefore_89 : decode cX11_nearestBefore 89 = .ok (.goto (-65), 3) := by decide +kernel
theorem dX11_nearestBefore_92 : decode cX11_nearestBefore 92 = .ok (.iconst (-1), 1) := by decide +kernel
theorem dX11_nearestBefore_93 : decode cX11_nearestBefore 93 = .ok (.ireturn, 1) := by decide +kernel
theorem dX11_firstFrom_0 : decode cX11_firstFrom 0 = .ok (.aload_n 0, 1) := by decide +kernel
theorem dX11_firstFrom_1 : decode cX11_firstFrom 1 = .ok (.getfield 50, 3) := by decide +kernel
theorem dX11_firstFrom_4 : decode cX11_firstFrom 4 = .ok (.aload_n 1, 1) := by decide +kernel
theorem dX11_firstFrom_5 : decode cX11_firstFrom 5 = .ok (.iload_n 2, 1) := by decide +kernel
theorem dX11_firstFrom_6 : decode cX11_firstFrom 6 = .ok (.invokevirtual 331, 3) := by decide +kernel
theorem dX11_firstFrom_9 : decode cX11_firstFrom 9 = .ok (.istore_n 3, 1) := by decide +kernel
theorem dX11_firstFrom_10 : decode cX11_firstFrom 10 = .ok (.iconst 0, 1) := by decide +kernel
theorem dX11_firstFrom_11 : decode cX11_firstFrom 11 = .ok (.istore 4, 2) := by decide +kernel
theorem dX11_firstFrom_13 : decode cX11_firstFrom 13 = .ok (.iload 4, 2) := by decide +kernel
theorem dX11_firstFrom_15 : decode cX11_firstFrom 15 = .ok (.iconst 3, 1) := by decide +kernel
theorem dX11_firstFrom_16 : decode cX11_firstFrom 16 = .ok (.if_icmp .ge 50, 3) := by decide +kernel
theorem dX11_firstFrom_19 : decode cX11_firstFrom 19 = .ok (.aload_n 0, 1) := by decide +kernel
theorem dX11_firstFrom_20 : decode cX11_firstFrom 20 = .ok (.getfield 63, 3) := by decide +kernel
theorem dX11_firstFrom_23 : decode cX11_firstFrom 23 = .ok (.iload 4, 2) := by decide +kernel
theorem dX11_firstFrom_25 : decode cX11_firstFrom 25 = .ok (.aaload, 1) := by decide +kernel
theorem dX11_firstFrom_26 : decode cX11_firstFrom 26 = .ok (.aload_n 1, 1) := by decide +kernel
theorem dX11_firstFrom_27 : decode cX11_firstFrom 27 = .ok (.iload_n 2, 1) := by decide +kernel
theorem dX11_firstFrom_28 : decode cX11_firstFrom 28 = .ok (.invokevirtual 334, 3) := by decide +kernel
theorem dX11_firstFrom_31 : decode cX11_firstFrom 31 = .ok (.istore 5, 2) := by decide +kernel
theorem dX11_firstFrom_33 : decode cX11_firstFrom 33 = .ok (.iload 5, 2) := by decide +kernel
theorem dX11_firstFrom_35 : decode cX11_firstFrom 35 = .ok (.iconst (-1), 1) := by decide +kernel
theorem dX11_firstFrom_36 : decode cX11_firstFrom 36 = .ok (.if_icmp .eq 24, 3) := by decide +kernel
theorem dX11_firstFrom_39 : decode cX11_firstFrom 39 = .ok (.iload_n 3, 1) := by decide +kernel
theorem dX11_firstFrom_40 : decode cX11_firstFrom 40 = .ok (.iconst (-1), 1) := by decide +kernel
theorem dX11_firstFrom_41 : decode cX11_firstFrom 41 = .ok (.if_icmp .eq 16, 3) := by decide +kernel
theorem dX11_firstFrom_44 : decode cX11_firstFrom 44 = .ok (.aload_n 0, 1) := by decide +kernel
theorem dX11_firstFrom_45 : decode cX11_firstFrom 45 = .ok (.getfield 12, 3) := by decide +kernel
theorem dX11_firstFrom_48 : decode cX11_firstFrom 48 = .ok (.iload 5, 2) := by decide +kernel
theorem dX11_firstFrom_50 : decode cX11_firstFrom 50 = .ok (.iload_n 3, 1) := by decide +kernel
theorem dX11_firstFrom_51 : decode cX11_firstFrom 51 = .ok (.invokevirtual 335, 3) := by decide +kernel
theorem dX11_firstFrom_54 : decode cX11_firstFrom 54 = .ok (.ifCond .ge 6, 3) := by decide +kernel
theorem dX11_firstFrom_57 : decode cX11_firstFrom 57 = .ok (.iload 5, 2) := by decide +kernel
theorem dX11_firstFrom_59 : decode cX11_firstFrom 59 = .ok (.istore_n 3, 1) := by decide +kernel
theorem dX11_firstFrom_60 : decode cX11_firstFrom 60 = .ok (.iinc 4 1, 3) := by decide +kernel
theorem dX11_firstFrom_63 : decode cX11_firstFrom 63 = .ok (.goto (-50), 3) := by decide +kernel
theorem dX11_firstFrom_66 : decode cX11_firstFrom 66 = .ok (.iload_n 3, 1) := by decide +kernel
theorem dX11_firstFrom_67 : decode cX11_firstFrom 67 = .ok (.ireturn, 1) := by decide +kernel
theorem dX11_lastBefore_0 : decode cX11_lastBefore 0 = .ok (.aload_n 0, 1) := by decide +kernel
theorem dX11_lastBefore_1 : decode cX11_lastBefore 1 = .ok (.getfield 50, 3) := by decide +kernel
theorem dX11_lastBefore_4 : decode cX11_lastBefore 4 = .ok (.aload_n 1, 1) := by decide +kernel
theorem dX11_lastBefore_5 : decode cX11_lastBefore 5 = .ok (.invokevirtual 338, 3) := by decide +kernel
theorem dX11_lastBefore_8 : decode cX11_lastBefore 8 = .ok (.istore_n 2, 1) := by decide +kernel
theorem dX11_lastBefore_9 : decode cX11_lastBefore 9 = .ok (.iconst 0, 1) := by decide +kernel
theorem dX11_lastBefore_10 : decode cX11_lastBefore 10 = .ok (.istore_n 3, 1) := by decide +kernel
theorem dX11_lastBefore_11 : decode cX11_lastBefore 11 = .ok (.iload_n 3, 1) := by decide +kernel
theorem dX11_lastBefore_12 : decode cX11_lastBefore 12 = .ok (.iconst 3, 1) := by decide +kernel
theorem dX11_lastBefore_13 : decode cX11_lastBefore 13 = .ok (.if_icmp .ge 48, 3) := by decide +kernel
theorem dX11_lastBefore_16 : decode cX11_lastBefore 16 = .ok (.aload_n 0, 1) := by decide +kernel
theorem dX11_lastBefore_17 : decode cX11_lastBefore 17 = .ok (.getfield 63, 3) := by decide +kernel
theorem dX11_lastBefore_20 : decode cX11_lastBefore 20 = .ok (.iload_n 3, 1) := by decide +kernel
theorem dX11_lastBefore_21 : decode cX11_lastBefore 21 = .ok (.aaload, 1) := by decide +kernel
theorem dX11_lastBefore_22 : decode cX11_lastBefore 22 = .ok (.aload_n 1, 1) := by decide +kernel
theorem dX11_lastBefore_23 : decode cX11_lastBefore 23 = .ok (.invokevirtual 339, 3) := by decide +kernel
theorem dX11_lastBefore_26 : decode cX11_lastBefore 26 = .ok (.istore 4, 2) := by decide +kernel
theorem dX11_lastBefore_28 : decode cX11_lastBefore 28 = .ok (.iload 4, 2) := by decide +kernel
theorem dX11_lastBefore_30 : decode cX11_lastBefore 30 = .ok (.iconst (-1), 1) := by decide +kernel
theorem dX11_lastBefore_31 : decode cX11_lastBefore 31 = .ok (.if_icmp .eq 24, 3) := by decide +kernel
theorem dX11_lastBefore_34 : decode cX11_lastBefore 34 = .ok (.iload_n 2, 1) := by decide +kernel
theorem dX11_lastBefore_35 : decode cX11_lastBefore 35 = .ok (.iconst (-1), 1) := by decide +kernel
theorem dX11_lastBefore_36 : decode cX11_lastBefore 36 = .ok (.if_icmp .eq 16, 3) := by decide +kernel
theorem dX11_lastBefore_39 : decode cX11_lastBefore 39 = .ok (.aload_n 0, 1) := by decide +kernel
theorem dX11_lastBefore_40 : decode cX11_lastBefore 40 = .ok (.getfield 12, 3) := by decide +kernel
theorem dX11_lastBefore_43 : decode cX11_lastBefore 43 = .ok (.iload 4, 2) := by decide +kernel
theorem dX11_lastBefore_45 : decode cX11_lastBefore 45 = .ok (.iload_n 2, 1) := by decide +kernel
theorem dX11_lastBefore_46 : decode cX11_lastBefore 46 = .ok (.invokevirtual 335, 3) := by decide +kernel
theorem dX11_lastBefore_49 : decode cX11_lastBefore 49 = .ok (.ifCond .le 6, 3) := by decide +kernel
theorem dX11_lastBefore_52 : decode cX11_lastBefore 52 = .ok (.iload 4, 2) := by decide +kernel
theorem dX11_lastBefore_54 : decode cX11_lastBefore 54 = .ok (.istore_n 2, 1) := by decide +kernel
theorem dX11_lastBefore_55 : decode cX11_lastBefore 55 = .ok (.iinc 3 1, 3) := by decide +kernel
theorem dX11_lastBefore_58 : decode cX11_lastBefore 58 = .ok (.goto (-47), 3) := by decide +kernel
theorem dX11_lastBefore_61 : decode cX11_lastBefore 61 = .ok (.iload_n 2, 1) := by decide +kernel
theorem dX11_lastBefore_62 : decode cX11_lastBefore 62 = .ok (.ireturn, 1) := by decide +kernel
theorem dX11_load_0 : decode cX11_load 0 = .ok (.aload_n 0, 1) := by decide +kernel
theorem dX11_load_1 : decode cX11_load 1 = .ok (.getfield 57, 3) := by decide +kernel
theorem dX11_load_4 : decode cX11_load 4 = .ok (.invokevirtual 340, 3) := by decide +kernel
theorem dX11_load_7 : decode cX11_load 7 = .ok (.iconst 0, 1) := by decide +kernel
theorem dX11_load_8 : decode cX11_load 8 = .ok (.istore_n 1, 1) := by decide +kernel
theorem dX11_load_9 : decode cX11_load 9 = .ok (.iload_n 1, 1) := by decide +kernel
theorem dX11_load_10 : decode cX11_load 10 = .ok (.iconst 3, 1) := by decide +kernel
theorem dX11_load_11 : decode cX11_load 11 = .ok (.if_icmp .ge 18, 3) := by decide +kernel
theorem dX11_load_14 : decode cX11_load 14 = .ok (.aload_n 0, 1) := by decide +kernel
theorem dX11_load_15 : decode cX11_load 15 = .ok (.getfield 63, 3) := by decide +kernel
theorem dX11_load_18 : decode cX11_load 18 = .ok (.iload_n 1, 1) := by decide +kernel
theorem dX11_load_19 : decode cX11_load 19 = .ok (.aaload, 1) := by decide +kernel
theorem dX11_load_20 : decode cX11_load 20 = .ok (.invokevirtual 341, 3) := by decide +kernel
theorem dX11_load_23 : decode cX11_load 23 = .ok (.iinc 1 1, 3) := by decide +kernel
theorem dX11_load_26 : decode cX11_load 26 = .ok (.goto (-17), 3) := by decide +kernel
theorem dX11_load_29 : decode cX11_load 29 = .ok (.aload_n 0, 1) := by decide +kernel
theorem dX11_load_30 : decode cX11_load 30 = .ok (.getfield 86, 3) := by decide +kernel
theorem dX11_load_33 : decode cX11_load 33 = .ok (.aload_n 0, 1) := by decide +kernel
theorem dX11_load_34 : decode cX11_load 34 = .ok (.getfield 63, 3) := by decide +kernel
theorem dX11_load_37 : decode cX11_load 37 = .ok (.aload_n 0, 1) := by decide +kernel
theorem dX11_load_38 : decode cX11_load 38 = .ok (.getfield 57, 3) := by decide +kernel
theorem dX11_load_41 : decode cX11_load 41 = .ok (.invokevirtual 342, 3) := by decide +kernel
theorem dX11_load_44 : decode cX11_load 44 = .ok (.aload_n 0, 1) := by decide +kernel
theorem dX11_load_45 : decode cX11_load 45 = .ok (.getfield 50, 3) := by decide +kernel
theorem dX11_load_48 : decode cX11_load 48 = .ok (.aload_n 0, 1) := by decide +kernel
theorem dX11_load_49 : decode cX11_load 49 = .ok (.getfield 86, 3) := by decide +kernel
theorem dX11_load_52 : decode cX11_load 52 = .ok (.getfield 345, 3) := by decide +kernel
theorem dX11_load_55 : decode cX11_load 55 = .ok (.invokevirtual 348, 3) := by decide +kernel
theorem dX11_load_58 : decode cX11_load 58 = .ok (.aload_n 0, 1) := by decide +kernel
theorem dX11_load_59 : decode cX11_load 59 = .ok (.aload_n 0, 1) := by decide +kernel
theorem dX11_load_60 : decode cX11_load 60 = .ok (.getfield 86, 3) := by decide +kernel
theorem dX11_load_63 : decode cX11_load 63 = .ok (.getfield 350, 3) := by decide +kernel
theorem dX11_load_66 : decode cX11_load 66 = .ok (.aload_n 0, 1) := by decide +kernel
theorem dX11_load_67 : decode cX11_load 67 = .ok (.getfield 50, 3) := by decide +kernel
theorem dX11_load_70 : decode cX11_load 70 = .ok (.invokevirtual 351, 3) := by decide +kernel
theorem dX11_load_73 : decode cX11_load 73 = .ok (.iadd, 1) := by decide +kernel
theorem dX11_load_74 : decode cX11_load 74 = .ok (.putfield 137, 3) := by decide +kernel
theorem dX11_load_77 : decode cX11_load 77 = .ok (.return_, 1) := by decide +kernel
theorem dX11_recount_0 : decode cX11_recount 0 = .ok (.aload_n 0, 1) := by decide +kernel
theorem dX11_recount_1 : decode cX11_recount 1 = .ok (.invokevirtual 238, 3) := by decide +kernel
theorem dX11_recount_4 : decode cX11_recount 4 = .ok (.aload_n 0, 1) := by decide +kernel
theorem dX11_recount_5 : decode cX11_recount 5 = .ok (.iconst 0, 1) := by decide +kernel
theorem dX11_recount_6 : decode cX11_recount 6 = .ok (.putfield 227, 3) := by decide +kernel
theorem dX11_recount_9 : decode cX11_recount 9 = .ok (.aload_n 0, 1) := by decide +kernel
theorem dX11_recount_10 : decode cX11_recount 10 = .ok (.iconst 0, 1) := by decide +kernel
theorem dX11_recount_11 : decode cX11_recount 11 = .ok (.putfield 230, 3) := by decide +kernel
theorem dX11_recount_14 : decode cX11_recount 14 = .ok (.aload_n 0, 1) := by decide +kernel
theorem dX11_recount_15 : decode cX11_recount 15 = .ok (.getfield 70, 3) := by decide +kernel
theorem dX11_recount_18 : decode cX11_recount 18 = .ok (.iconst 0, 1) := by decide +kernel
theorem dX11_recount_19 : decode cX11_recount 19 = .ok (.ldc 175, 2) := by decide +kernel
theorem dX11_recount_21 : decode cX11_recount 21 = .ok (.invokevirtual 243, 3) := by decide +kernel
theorem dX11_recount_24 : decode cX11_recount 24 = .ok (.istore_n 1, 1) := by decide +kernel
theorem dX11_recount_25 : decode cX11_recount 25 = .ok (.iconst 0, 1) := by decide +kernel
theorem dX11_recount_26 : decode cX11_recount 26 = .ok (.istore_n 2, 1) := by decide +kernel
theorem dX11_recount_27 : decode cX11_recount 27 = .ok (.iload_n 2, 1) := by decide +kernel
theorem dX11_recount_28 : decode cX11_recount 28 = .ok (.sipush 2048, 3) := by decide +kernel
theorem dX11_recount_31 : decode cX11_recount 31 = .ok (.if_icmp .ge 62, 3) := by decide +kernel
theorem dX11_recount_34 : decode cX11_recount 34 = .ok (.iload_n 1, 1) := by decide +kernel
theorem dX11_recount_35 : decode cX11_recount 35 = .ok (.iconst (-1), 1) := by decide +kernel
theorem dX11_recount_36 : decode cX11_recount 36 = .ok (.if_icmp .eq 57, 3) := by decide +kernel
theorem dX11_recount_39 : decode cX11_recount 39 = .ok (.aload_n 0, 1) := by decide +kernel
theorem dX11_recount_40 : decode cX11_recount 40 = .ok (.dup, 1) := by decide +kernel
theorem dX11_recount_41 : decode cX11_recount 41 = .ok (.getfield 227, 3) := by decide +kernel
theorem dX11_recount_44 : decode cX11_recount 44 = .ok (.aload_n 0, 1) := by decide +kernel
theorem dX11_recount_45 : decode cX11_recount 45 = .ok (.getfield 12, 3) := by decide +kernel
theorem dX11_recount_48 : decode cX11_recount 48 = .ok (.aload_n 0, 1) := by decide +kernel
theorem dX11_recount_49 : decode cX11_recount 49 = .ok (.getfield 70, 3) := by decide +kernel
theorem dX11_recount_52 : decode cX11_recount 52 = .ok (.getfield 246, 3) := by decide +kernel
theorem dX11_recount_55 : decode cX11_recount 55 = .ok (.iload_n 1, 1) := by decide +kernel
theorem dX11_recount_56 : decode cX11_recount 56 = .ok (.iaload, 1) := by decide +kernel
theorem dX11_recount_57 : decode cX11_recount 57 = .ok (.invokevirtual 307, 3) := by decide +kernel
theorem dX11_recount_60 : decode cX11_recount 60 = .ok (.iadd, 1) := by decide +kernel
theorem dX11_recount_61 : decode cX11_recount 61 = .ok (.putfield 227, 3) := by decide +kernel
theorem dX11_recount_64 : decode cX11_recount 64 = .ok (.aload_n 0, 1) := by decide +kernel
theorem dX11_recount_65 : decode cX11_recount 65 = .ok (.dup, 1) := by decide +kernel
theorem dX11_recount_66 : decode cX11_recount 66 = .ok (.getfield 230, 3) := by decide +kernel
theorem dX11_recount_69 : decode cX11_recount 69 = .ok (.iconst 1, 1) := by decide +kernel
theorem dX11_recount_70 : decode cX11_recount 70 = .ok (.iadd, 1) := by decide +kernel
theorem dX11_recount_71 : decode cX11_recount 71 = .ok (.putfield 230, 3) := by decide +kernel
theorem dX11_recount_74 : decode cX11_recount 74 = .ok (.aload_n 0, 1) := by decide +kernel
theorem dX11_recount_75 : decode cX11_recount 75 = .ok (.getfield 70, 3) := by decide +kernel
theorem dX11_recount_78 : decode cX11_recount 78 = .ok (.iload_n 1, 1) := by decide +kernel
theorem dX11_recount_79 : decode cX11_recount 79 = .ok (.iconst 1, 1) := by decide +kernel
theorem dX11_recount_80 : decode cX11_recount 80 = .ok (.iadd, 1) := by decide +kernel
theorem dX11_recount_81 : decode cX11_recount 81 = .ok (.ldc 175, 2) := by decide +kernel
theorem dX11_recount_83 : decode cX11_recount 83 = .ok (.invokevirtual 243, 3) := by decide +kernel
theorem dX11_recount_86 : decode cX11_recount 86 = .ok (.istore_n 1, 1) := by decide +kernel
theorem dX11_recount_87 : decode cX11_recount 87 = .ok (.iinc 2 1, 3) := by decide +kernel
theorem dX11_recount_90 : decode cX11_recount 90 = .ok (.goto (-63), 3) := by decide +kernel
theorem dX11_recount_93 : decode cX11_recount 93 = .ok (.return_, 1) := by decide +kernel
theorem dX11_settle_0 : decode cX11_settle 0 = .ok (.aload_n 0, 1) := by decide +kernel
theorem dX11_settle_1 : decode cX11_settle 1 = .ok (.getfield 50, 3) := by decide +kernel
theorem dX11_settle_4 : decode cX11_settle 4 = .ok (.getfield 203, 3) := by decide +kernel
theorem dX11_settle_7 : decode cX11_settle 7 = .ok (.iload_n 1, 1) := by decide +kernel
theorem dX11_settle_8 : decode cX11_settle 8 = .ok (.if_icmp .le 37, 3) := by decide +kernel
theorem dX11_settle_11 : decode cX11_settle 11 = .ok (.aload_n 0, 1) := by decide +kernel
theorem dX11_settle_12 : decode cX11_settle 12 = .ok (.invokevirtual 354, 3) := by decide +kernel
theorem dX11_settle_15 : decode cX11_settle 15 = .ok (.aload_n 0, 1) := by decide +kernel
theorem dX11_settle_16 : decode cX11_settle 16 = .ok (.getfield 63, 3) := by decide +kernel
theorem dX11_settle_19 : decode cX11_settle 19 = .ok (.iconst 0, 1) := by decide +kernel
theorem dX11_settle_20 : decode cX11_settle 20 = .ok (.aaload, 1) := by decide +kernel
theorem dX11_settle_21 : decode cX11_settle 21 = .ok (.aload_n 0, 1) := by decide +kernel
theorem dX11_settle_22 : decode cX11_settle 22 = .ok (.getfield 50, 3) := by decide +kernel
theorem dX11_settle_25 : decode cX11_settle 25 = .ok (.invokevirtual 357, 3) := by decide +kernel
theorem dX11_settle_28 : decode cX11_settle 28 = .ok (.aload_n 0, 1) := by decide +kernel
theorem dX11_settle_29 : decode cX11_settle 29 = .ok (.getfield 50, 3) := by decide +kernel
theorem dX11_settle_32 : decode cX11_settle 32 = .ok (.invokevirtual 360, 3) := by decide +kernel
theorem dX11_settle_35 : decode cX11_settle 35 = .ok (.invokevirtual 363, 3) := by decide +kernel
theorem dX11_settle_38 : decode cX11_settle 38 = .ok (.aload_n 0, 1) := by decide +kernel
theorem dX11_settle_39 : decode cX11_settle 39 = .ok (.iconst 0, 1) := by decide +kernel
theorem dX11_settle_40 : decode cX11_settle 40 = .ok (.iconst 1, 1) := by decide +kernel
theorem dX11_settle_41 : decode cX11_settle 41 = .ok (.invokevirtual 206, 3) := by decide +kernel
theorem dX11_settle_44 : decode cX11_settle 44 = .ok (.pop, 1) := by decide +kernel
theorem dX11_settle_45 : decode cX11_settle 45 = .ok (.iconst 0, 1) := by decide +kernel
theorem dX11_settle_46 : decode cX11_settle 46 = .ok (.istore_n 2, 1) := by decide +kernel
theorem dX11_settle_47 : decode cX11_settle 47 = .ok (.iload_n 2, 1) := by decide +kernel
theorem dX11_settle_48 : decode cX11_settle 48 = .ok (.iconst 2, 1) := by decide +kernel
theorem dX11_settle_49 : decode cX11_settle 49 = .ok (.if_icmp .ge 138, 3) := by decide +kernel
theorem dX11_settle_52 : decode cX11_settle 52 = .ok (.iconst 1, 1) := by decide +kernel
theorem dX11_settle_53 : decode cX11_settle 53 = .ok (.istore_n 3, 1) := by decide +kernel
theorem dX11_settle_54 : decode cX11_settle 54 = .ok (.iconst 0, 1) := by decide +kernel
theorem dX11_settle_55 : decode cX11_settle 55 = .ok (.istore 4, 2) := by decide +kernel
theorem dX11_settle_57 : decode cX11_settle 57 = .ok (.iload 4, 2) := by decide +kernel
theorem dX11_settle_59 : decode cX11_settle 59 = .ok (.sipush 256, 3) := by decide +kernel
theorem dX11_settle_62 : decode cX11_settle 62 = .ok (.if_icmp .ge 119, 3) := by decide +kernel
theorem dX11_settle_65 : decode cX11_settle 65 = .ok (.iload_n 3, 1) := by decide +kernel
theorem dX11_settle_66 : decode cX11_settle 66 = .ok (.ifCond .eq 115, 3) := by decide +kernel
theorem dX11_settle_69 : decode cX11_settle 69 = .ok (.aload_n 0, 1) := by decide +kernel
theorem dX11_settle_70 : decode cX11_settle 70 = .ok (.getfield 63, 3) := by decide +kernel
theorem dX11_settle_73 : decode cX11_settle 73 = .ok (.iload_n 2, 1) := by decide +kernel
theorem dX11_settle_74 : decode cX11_settle 74 = .ok (.aaload, 1) := by decide +kernel
theorem dX11_settle_75 : decode cX11_settle 75 = .ok (.invokevirtual 367, 3) := by decide +kernel
theorem dX11_settle_78 : decode cX11_settle 78 = .ok (.getstatic 370, 3) := by decide +kernel
theorem dX11_settle_81 : decode cX11_settle 81 = .ok (.iload_n 2, 1) := by decide +kernel
theorem dX11_settle_82 : decode cX11_settle 82 = .ok (.iaload, 1) := by decide +kernel
theorem dX11_settle_83 : decode cX11_settle 83 = .ok (.if_icmp .le 98, 3) := by decide +kernel
theorem dX11_settle_86 : decode cX11_settle 86 = .ok (.aload_n 0, 1) := by decide +kernel
theorem dX11_settle_87 : decode cX11_settle 87 = .ok (.invokevirtual 354, 3) := by decide +kernel
theorem dX11_settle_90 : decode cX11_settle 90 = .ok (.aload_n 0, 1) := by decide +kernel
theorem dX11_settle_91 : decode cX11_settle 91 = .ok (.getfield 373, 3) := by decide +kernel
theorem dX11_settle_94 : decode cX11_settle 94 = .ok (.iconst 1, 1) := by decide +kernel
theorem dX11_settle_95 : decode cX11_settle 95 = .ok (.aload_n 0, 1) := by decide +kernel
theorem dX11_settle_96 : decode cX11_settle 96 = .ok (.getfield 63, 3) := by decide +kernel
theorem dX11_settle_99 : decode cX11_settle 99 = .ok (.iload_n 2, 1) := by decide +kernel
theorem dX11_settle_100 : decode cX11_settle 100 = .ok (.aaload, 1) := by decide +kernel
theorem dX11_settle_101 : decode cX11_settle 101 = .ok (.getfield 376, 3) := by decide +kernel
theorem dX11_settle_104 : decode cX11_settle 104 = .ok (.invokestatic 379, 3) := by decide +kernel
theorem dX11_settle_107 : decode cX11_settle 107 = .ok (.invokestatic 384, 3) := by decide +kernel
theorem dX11_settle_110 : decode cX11_settle 110 = .ok (.istore 5, 2) := by decide +kernel
theorem dX11_settle_112 : decode cX11_settle 112 = .ok (.aload_n 0, 1) := by decide +kernel
theorem dX11_settle_113 : decode cX11_settle 113 = .ok (.dup, 1) := by decide +kernel
theorem dX11_settle_114 : decode cX11_settle 114 = .ok (.getfield 373, 3) := by decide +kernel
theorem dX11_settle_117 : decode cX11_settle 117 = .ok (.iconst 1, 1) := by decide +kernel
theorem dX11_settle_118 : decode cX11_settle 118 = .ok (.iadd, 1) := by decide +kernel
theorem dX11_settle_119 : decode cX11_settle 119 = .ok (.putfield 373, 3) := by decide +kernel
theorem dX11_settle_122 : decode cX11_settle 122 = .ok (.aload_n 0, 1) := by decide +kernel
theorem dX11_settle_123 : decode cX11_settle 123 = .ok (.getfield 63, 3) := by decide +kernel
theorem dX11_settle_126 : decode cX11_settle 126 = .ok (.iload_n 2, 1) := by decide +kernel
theorem dX11_settle_127 : decode cX11_settle 127 = .ok (.aaload, 1) := by decide +kernel
theorem dX11_settle_128 : decode cX11_settle 128 = .ok (.iload 5, 2) := by decide +kernel
theorem dX11_settle_130 : decode cX11_settle 130 = .ok (.invokevirtual 387, 3) := by decide +kernel
theorem dX11_settle_133 : decode cX11_settle 133 = .ok (.aload_n 0, 1) := by decide +kernel
theorem dX11_settle_134 : decode cX11_settle 134 = .ok (.getfield 63, 3) := by decide +kernel
theorem dX11_settle_137 : decode cX11_settle 137 = .ok (.iload_n 2, 1) := by decide +kernel
theorem dX11_settle_138 : decode cX11_settle 138 = .ok (.iconst 1, 1) := by decide +kernel
theorem dX11_settle_139 : decode cX11_settle 139 = .ok (.iadd, 1) := by decide +kernel
theorem dX11_settle_140 : decode cX11_settle 140 = .ok (.aaload, 1) := by decide +kernel
theorem dX11_settle_141 : decode cX11_settle 141 = .ok (.aload_n 0, 1) := by decide +kernel
theorem dX11_settle_142 : decode cX11_settle 142 = .ok (.getfield 63, 3) := by decide +kernel
theorem dX11_settle_145 : decode cX11_settle 145 = .ok (.iload_n 2, 1) := by decide +kernel
theorem dX11_settle_146 : decode cX11_settle 146 = .ok (.aaload, 1) := by decide +kernel
theorem dX11_settle_147 : decode cX11_settle 147 = .ok (.iload 5, 2) := by decide +kernel
theorem dX11_settle_149 : decode cX11_settle 149 = .ok (.invokevirtual 390, 3) := by decide +kernel
theorem dX11_settle_152 : decode cX11_settle 152 = .ok (.aload_n 0, 1) := by decide +kernel
theorem dX11_settle_153 : decode cX11_settle 153 = .ok (.getfield 63, 3) := by decide +kernel
theorem dX11_settle_156 : decode cX11_settle 156 = .ok (.iload_n 2, 1) := by decide +kernel
theorem dX11_settle_157 : decode cX11_settle 157 = .ok (.aaload, 1) := by decide +kernel
theorem dX11_settle_158 : decode cX11_settle 158 = .ok (.iload 5, 2) := by decide +kernel
theorem dX11_settle_160 : decode cX11_settle 160 = .ok (.invokevirtual 393, 3) := by decide +kernel
theorem dX11_settle_163 : decode cX11_settle 163 = .ok (.invokevirtual 363, 3) := by decide +kernel
theorem dX11_settle_166 : decode cX11_settle 166 = .ok (.aload_n 0, 1) := by decide +kernel
theorem dX11_settle_167 : decode cX11_settle 167 = .ok (.iload_n 2, 1) := by decide +kernel
theorem dX11_settle_168 : decode cX11_settle 168 = .ok (.iconst 1, 1) := by decide +kernel
theorem dX11_settle_169 : decode cX11_settle 169 = .ok (.iadd, 1) := by decide +kernel
theorem dX11_settle_170 : decode cX11_settle 170 = .ok (.iconst 0, 1) := by decide +kernel
theorem dX11_settle_171 : decode cX11_settle 171 = .ok (.invokevirtual 206, 3) := by decide +kernel
theorem dX11_settle_174 : decode cX11_settle 174 = .ok (.istore_n 3, 1) := by decide +kernel
theorem dX11_settle_175 : decode cX11_settle 175 = .ok (.iinc 4 1, 3) := by decide +kernel
theorem dX11_settle_178 : decode cX11_settle 178 = .ok (.goto (-121), 3) := by decide +kernel
theorem dX11_settle_181 : decode cX11_settle 181 = .ok (.iinc 2 1, 3) := by decide +kernel
theorem dX11_settle_184 : decode cX11_settle 184 = .ok (.goto (-137), 3) := by decide +kernel
theorem dX11_settle_187 : decode cX11_settle 187 = .ok (.return_, 1) := by decide +kernel
theorem dX11_pickNone_0 : decode cX11_pickNone 0 = .ok (.iconst 0, 1) := by decide +kernel
theorem dX11_pickNone_1 : decode cX11_pickNone 1 = .ok (.istore_n 1, 1) := by decide +kernel
theorem dX11_pickNone_2 : decode cX11_pickNone 2 = .ok (.iload_n 1, 1) := by decide +kernel
theorem dX11_pickNone_3 : decode cX11_pickNone 3 = .ok (.iconst 3, 1) := by decide +kernel
theorem dX11_pickNone_4 : decode cX11_pickNone 4 = .ok (.if_icmp .ge 18, 3) := by decide +kernel
theorem dX11_pickNone_7 : decode cX11_pickNone 7 = .ok (.aload_n 0, 1) := by decide +kernel
theorem dX11_pickNone_8 : decode cX11_pickNone 8 = .ok (.getfield 63, 3) := by decide +kernel
theorem dX11_pickNone_11 : decode cX11_pickNone 11 = .ok (.iload_n 1, 1) := by decide +kernel
theorem dX11_pickNone_12 : decode cX11_pickNone 12 = .ok (.aaload, 1) := by decide +kernel
theorem dX11_pickNone_13 : decode cX11_pickNone 13 = .ok (.invokevirtual 396, 3) := by decide +kernel
theorem dX11_pickNone_16 : decode cX11_pickNone 16 = .ok (.iinc 1 1, 3) := by decide +kernel
theorem dX11_pickNone_19 : decode cX11_pickNone 19 = .ok (.goto (-17), 3) := by decide +kernel
theorem dX11_pickNone_22 : decode cX11_pickNone 22 = .ok (.return_, 1) := by decide +kernel
theorem dX11_join_0 : decode cX11_join 0 = .ok (.aload_n 0, 1) := by decide +kernel
theorem dX11_join_1 : decode cX11_join 1 = .ok (.iload_n 2, 1) := by decide +kernel
theorem dX11_join_2 : decode cX11_join 2 = .ok (.invokevirtual 397, 3) := by decide +kernel
theorem dX11_join_5 : decode cX11_join 5 = .ok (.aload_n 0, 1) := by decide +kernel
theorem dX11_join_6 : decode cX11_join 6 = .ok (.getfield 70, 3) := by decide +kernel
theorem dX11_join_9 : decode cX11_join 9 = .ok (.aload_n 0, 1) := by decide +kernel
theorem dX11_join_10 : decode cX11_join 10 = .ok (.getfield 41, 3) := by decide +kernel
theorem dX11_join_13 : decode cX11_join 13 = .ok (.iload_n 1, 1) := by decide +kernel
theorem dX11_join_14 : decode cX11_join 14 = .ok (.iconst 2, 1) := by decide +kernel
theorem dX11_join_15 : decode cX11_join 15 = .ok (.if_icmp .ne 7, 3) := by decide +kernel
theorem dX11_join_18 : decode cX11_join 18 = .ok (.iconst 1, 1) := by decide +kernel
theorem dX11_join_19 : decode cX11_join 19 = .ok (.goto 4, 3) := by decide +kernel
theorem dX11_join_22 : decode cX11_join 22 = .ok (.iconst 0, 1) := by decide +kernel
theorem dX11_join_23 : decode cX11_join 23 = .ok (.invokevirtual 400, 3) := by decide +kernel
theorem dX11_join_26 : decode cX11_join 26 = .ok (.aload_n 0, 1) := by decide +kernel
theorem dX11_join_27 : decode cX11_join 27 = .ok (.getfield 70, 3) := by decide +kernel
theorem dX11_join_30 : decode cX11_join 30 = .ok (.getfield 404, 3) := by decide +kernel
theorem dX11_join_33 : decode cX11_join 33 = .ok (.ifCond .eq 17, 3) := by decide +kernel
theorem dX11_join_36 : decode cX11_join 36 = .ok (.aload_n 0, 1) := by decide +kernel
theorem dX11_join_37 : decode cX11_join 37 = .ok (.getfield 79, 3) := by decide +kernel
theorem dX11_join_40 : decode cX11_join 40 = .ok (.aload_n 0, 1) := by decide +kernel
theorem dX11_join_41 : decode cX11_join 41 = .ok (.getfield 70, 3) := by decide +kernel
theorem dX11_join_44 : decode cX11_join 44 = .ok (.invokevirtual 407, 3) := by decide +kernel
theorem dX11_join_47 : decode cX11_join 47 = .ok (.ifCond .ne 5, 3) := by decide +kernel
theorem dX11_join_50 : decode cX11_join 50 = .ok (.iconst 0, 1) := by decide +kernel
theorem dX11_join_51 : decode cX11_join 51 = .ok (.ireturn, 1) := by decide +kernel
theorem dX11_join_52 : decode cX11_join 52 = .ok (.aload_n 0, 1) := by decide +kernel
theorem dX11_join_53 : decode cX11_join 53 = .ok (.getfield 79, 3) := by decide +kernel
theorem dX11_join_56 : decode cX11_join 56 = .ok (.aload_n 0, 1) := by decide +kernel
theorem dX11_join_57 : decode cX11_join 57 = .ok (.getfield 70, 3) := by decide +kernel
theorem dX11_join_60 : decode cX11_join 60 = .ok (.invokevirtual 410, 3) := by decide +kernel
theorem dX11_join_63 : decode cX11_join 63 = .ok (.iconst 0, 1) := by decide +kernel
theorem dX11_join_64 : decode cX11_join 64 = .ok (.istore_n 3, 1) := by decide +kernel
theorem dX11_join_65 : decode cX11_join 65 = .ok (.iload_n 3, 1) := by decide +kernel
theorem dX11_join_66 : decode cX11_join 66 = .ok (.iconst 3, 1) := by decide +kernel
theorem dX11_join_67 : decode cX11_join 67 = .ok (.if_icmp .ge 22, 3) := by decide +kernel
theorem dX11_join_70 : decode cX11_join 70 = .ok (.aload_n 0, 1) := by decide +kernel
theorem dX11_join_71 : decode cX11_join 71 = .ok (.getfield 63, 3) := by decide +kernel
theorem dX11_join_74 : decode cX11_join 74 = .ok (.iload_n 3, 1) := by decide +kernel
theorem dX11_join_75 : decode cX11_join 75 = .ok (.aaload, 1) := by decide +kernel
theorem dX11_join_76 : decode cX11_join 76 = .ok (.aload_n 0, 1) := by decide +kernel
theorem dX11_join_77 : decode cX11_join 77 = .ok (.getfield 57, 3) := by decide +kernel
theorem dX11_join_80 : decode cX11_join 80 = .ok (.invokevirtual 414, 3) := by decide +kernel
theorem dX11_join_83 : decode cX11_join 83 = .ok (.iinc 3 1, 3) := by decide +kernel
theorem dX11_join_86 : decode cX11_join 86 = .ok (.goto (-21), 3) := by decide +kernel
theorem dX11_join_89 : decode cX11_join 89 = .ok (.aload_n 0, 1) := by decide +kernel
theorem dX11_join_90 : decode cX11_join 90 = .ok (.getfield 63, 3) := by decide +kernel
theorem dX11_join_93 : decode cX11_join 93 = .ok (.iload_n 1, 1) := by decide +kernel
theorem dX11_join_94 : decode cX11_join 94 = .ok (.aaload, 1) := by decide +kernel
theorem dX11_join_95 : decode cX11_join 95 = .ok (.aload_n 0, 1) := by decide +kernel
theorem dX11_join_96 : decode cX11_join 96 = .ok (.getfield 79, 3) := by decide +kernel
theorem dX11_join_99 : decode cX11_join 99 = .ok (.getfield 418, 3) := by decide +kernel
theorem dX11_join_102 : decode cX11_join 102 = .ok (.aload_n 0, 1) := by decide +kernel
theorem dX11_join_103 : decode cX11_join 103 = .ok (.getfield 79, 3) := by decide +kernel
theorem dX11_join_106 : decode cX11_join 106 = .ok (.getfield 422, 3) := by decide +kernel
theorem dX11_join_109 : decode cX11_join 109 = .ok (.invokevirtual 423, 3) := by decide +kernel
theorem dX11_join_112 : decode cX11_join 112 = .ok (.iload_n 2, 1) := by decide +kernel
theorem dX11_join_113 : decode cX11_join 113 = .ok (.ifCond .eq 10, 3) := by decide +kernel
theorem dX11_join_116 : decode cX11_join 116 = .ok (.aload_n 0, 1) := by decide +kernel
theorem dX11_join_117 : decode cX11_join 117 = .ok (.getfield 50, 3) := by decide +kernel
theorem dX11_join_120 : decode cX11_join 120 = .ok (.invokevirtual 427, 3) := by decide +kernel
theorem dX11_join_123 : decode cX11_join 123 = .ok (.aload_n 0, 1) := by decide +kernel
theorem dX11_join_124 : decode cX11_join 124 = .ok (.getfield 86, 3) := by decide +kernel
theorem dX11_join_127 : decode cX11_join 127 = .ok (.iload_n 2, 1) := by decide +kernel
theorem dX11_join_128 : decode cX11_join 128 = .ok (.ifCond .eq 13, 3) := by decide +kernel
theorem dX11_join_131 : decode cX11_join 131 = .ok (.aload_n 0, 1) := by decide +kernel
theorem dX11_join_132 : decode cX11_join 132 = .ok (.getfield 50, 3) := by decide +kernel
theorem dX11_join_135 : decode cX11_join 135 = .ok (.invokevirtual 430, 3) := by decide +kernel
theorem dX11_join_138 : decode cX11_join 138 = .ok (.goto 10, 3) := by decide +kernel
theorem dX11_join_141 : decode cX11_join 141 = .ok (.aload_n 0, 1) := by decide +kernel
theorem dX11_join_142 : decode cX11_join 142 = .ok (.getfield 50, 3) := by decide +kernel
theorem dX11_join_145 : decode cX11_join 145 = .ok (.getfield 433, 3) := by decide +kernel
theorem dX11_join_148 : decode cX11_join 148 = .ok (.iload_n 2, 1) := by decide +kernel
theorem dX11_join_149 : decode cX11_join 149 = .ok (.ifCond .eq 10, 3) := by decide +kernel
theorem dX11_join_152 : decode cX11_join 152 = .ok (.aload_n 0, 1) := by decide +kernel
theorem dX11_join_153 : decode cX11_join 153 = .ok (.getfield 137, 3) := by decide +kernel
theorem dX11_join_156 : decode cX11_join 156 = .ok (.goto 10, 3) := by decide +kernel
theorem dX11_join_159 : decode cX11_join 159 = .ok (.aload_n 0, 1) := by decide +kernel
theorem dX11_join_160 : decode cX11_join 160 = .ok (.getfield 86, 3) := by decide +kernel
theorem dX11_join_163 : decode cX11_join 163 = .ok (.getfield 350, 3) := by decide +kernel
theorem dX11_join_166 : decode cX11_join 166 = .ok (.aload_n 0, 1) := by decide +kernel
theorem dX11_join_167 : decode cX11_join 167 = .ok (.getfield 63, 3) := by decide +kernel
theorem dX11_join_170 : decode cX11_join 170 = .ok (.invokevirtual 434, 3) := by decide +kernel
theorem dX11_join_173 : decode cX11_join 173 = .ok (.aload_n 0, 1) := by decide +kernel
theorem dX11_join_174 : decode cX11_join 174 = .ok (.getfield 57, 3) := by decide +kernel
theorem dX11_join_177 : decode cX11_join 177 = .ok (.invokevirtual 438, 3) := by decide +kernel
theorem dX11_join_180 : decode cX11_join 180 = .ok (.iload_n 2, 1) := by decide +kernel
theorem dX11_join_181 : decode cX11_join 181 = .ok (.ifCond .eq 10, 3) := by decide +kernel
theorem dX11_join_184 : decode cX11_join 184 = .ok (.aload_n 0, 1) := by decide +kernel
theorem dX11_join_185 : decode cX11_join 185 = .ok (.getfield 50, 3) := by decide +kernel
theorem dX11_join_188 : decode cX11_join 188 = .ok (.invokevirtual 441, 3) := by decide +kernel
theorem dX11_join_191 : decode cX11_join 191 = .ok (.iconst 1, 1) := by decide +kernel
theorem dX11_join_192 : decode cX11_join 192 = .ok (.ireturn, 1) := by decide +kernel
theorem dX11_gatherAll_0 : decode cX11_gatherAll 0 = .ok (.iconst 0, 1) := by decide +kernel
theorem dX11_gatherAll_1 : decode cX11_gatherAll 1 = .ok (.istore_n 1, 1) := by decide +kernel
theorem dX11_gatherAll_2 : decode cX11_gatherAll 2 = .ok (.iload_n 1, 1) := by decide +kernel
theorem dX11_gatherAll_3 : decode cX11_gatherAll 3 = .ok (.iconst 3, 1) := by decide +kernel
theorem dX11_gatherAll_4 : decode cX11_gatherAll 4 = .ok (.if_icmp .ge 18, 3) := by decide +kernel
theorem dX11_gatherAll_7 : decode cX11_gatherAll 7 = .ok (.aload_n 0, 1) := by decide +kernel
theorem dX11_gatherAll_8 : decode cX11_gatherAll 8 = .ok (.getfield 63, 3) := by decide +kernel
theorem dX11_gatherAll_11 : decode cX11_gatherAll 11 = .ok (.iload_n 1, 1) := by decide +kernel
theorem dX11_gatherAll_12 : decode cX11_gatherAll 12 = .ok (.aaload, 1) := by decide +kernel
theorem dX11_gatherAll_13 : decode cX11_gatherAll 13 = .ok (.invokevirtual 200, 3) := by decide +kernel
theorem dX11_gatherAll_16 : decode cX11_gatherAll 16 = .ok (.iinc 1 1, 3) := by decide +kernel
theorem dX11_gatherAll_19 : decode cX11_gatherAll 19 = .ok (.goto (-17), 3) := by decide +kernel
theorem dX11_gatherAll_22 : decode cX11_gatherAll 22 = .ok (.aload_n 0, 1) := by decide +kernel
theorem dX11_gatherAll_23 : decode cX11_gatherAll 23 = .ok (.iconst 1, 1) := by decide +kernel
theorem dX11_gatherAll_24 : decode cX11_gatherAll 24 = .ok (.invokevirtual 397, 3) := by decide +kernel
theorem dX11_gatherAll_27 : decode cX11_gatherAll 27 = .ok (.return_, 1) := by decide +kernel
theorem dX11_gather_0 : decode cX11_gather 0 = .ok (.aload_n 0, 1) := by decide +kernel
theorem dX11_gather_1 : decode cX11_gather 1 = .ok (.getfield 70, 3) := by decide +kernel
theorem dX11_gather_4 : decode cX11_gather 4 = .ok (.invokevirtual 444, 3) := by decide +kernel
theorem dX11_gather_7 : decode cX11_gather 7 = .ok (.iload_n 1, 1) := by decide +kernel
theorem dX11_gather_8 : decode cX11_gather 8 = .ok (.ifCond .eq 14, 3) := by decide +kernel
theorem dX11_gather_11 : decode cX11_gather 11 = .ok (.aload_n 0, 1) := by decide +kernel
theorem dX11_gather_12 : decode cX11_gather 12 = .ok (.getfield 50, 3) := by decide +kernel
theorem dX11_gather_15 : decode cX11_gather 15 = .ok (.aload_n 0, 1) := by decide +kernel
theorem dX11_gather_16 : decode cX11_gather 16 = .ok (.getfield 70, 3) := by decide +kernel
theorem dX11_gather_19 : decode cX11_gather 19 = .ok (.invokevirtual 445, 3) := by decide +kernel
theorem dX11_gather_22 : decode cX11_gather 22 = .ok (.iconst 0, 1) := by decide +kernel
theorem dX11_gather_23 : decode cX11_gather 23 = .ok (.istore_n 2, 1) := by decide +kernel
theorem dX11_gather_24 : decode cX11_gather 24 = .ok (.iload_n 2, 1) := by decide +kernel
theorem dX11_gather_25 : decode cX11_gather 25 = .ok (.iconst 3, 1) := by decide +kernel
theorem dX11_gather_26 : decode cX11_gather 26 = .ok (.if_icmp .ge 38, 3) := by decide +kernel
theorem dX11_gather_29 : decode cX11_gather 29 = .ok (.aload_n 0, 1) := by decide +kernel
theorem dX11_gather_30 : decode cX11_gather 30 = .ok (.getfield 70, 3) := by decide +kernel
theorem dX11_gather_33 : decode cX11_gather 33 = .ok (.getfield 448, 3) := by decide +kernel
theorem dX11_gather_36 : decode cX11_gather 36 = .ok (.istore_n 3, 1) := by decide +kernel
theorem dX11_gather_37 : decode cX11_gather 37 = .ok (.aload_n 0, 1) := by decide +kernel
theorem dX11_gather_38 : decode cX11_gather 38 = .ok (.getfield 63, 3) := by decide +kernel
theorem dX11_gather_41 : decode cX11_gather 41 = .ok (.iload_n 2, 1) := by decide +kernel
theorem dX11_gather_42 : decode cX11_gather 42 = .ok (.aaload, 1) := by decide +kernel
theorem dX11_gather_43 : decode cX11_gather 43 = .ok (.aload_n 0, 1) := by decide +kernel
theorem dX11_gather_44 : decode cX11_gather 44 = .ok (.getfield 70, 3) := by decide +kernel
theorem dX11_gather_47 : decode cX11_gather 47 = .ok (.invokevirtual 449, 3) := by decide +kernel
theorem dX11_gather_50 : decode cX11_gather 50 = .ok (.aload_n 0, 1) := by decide +kernel
theorem dX11_gather_51 : decode cX11_gather 51 = .ok (.getfield 70, 3) := by decide +kernel
theorem dX11_gather_54 : decode cX11_gather 54 = .ok (.iload_n 3, 1) := by decide +kernel
theorem dX11_gather_55 : decode cX11_gather 55 = .ok (.invokevirtual 450, 3) := by decide +kernel
theorem dX11_gather_58 : decode cX11_gather 58 = .ok (.iinc 2 1, 3) := by decide +kernel
theorem dX11_gather_61 : decode cX11_gather 61 = .ok (.goto (-37), 3) := by decide +kernel
theorem dX11_gather_64 : decode cX11_gather 64 = .ok (.return_, 1) := by decide +kernel
theorem dX12_init_0 : decode cX12_init 0 = .ok (.aload_n 0, 1) := by decide +kernel
theorem dX12_init_1 : decode cX12_init 1 = .ok (.invokespecial 1, 3) := by decide +kernel
theorem dX12_init_4 : decode cX12_init 4 = .ok (.aload_n 0, 1) := by decide +kernel
theorem dX12_init_5 : decode cX12_init 5 = .ok (.bipush 32, 2) := by decide +kernel
theorem dX12_init_7 : decode cX12_init 7 = .ok (.newarray .byte, 2) := by decide +kernel
theorem dX12_init_9 : decode cX12_init 9 = .ok (.putfield 9, 3) := by decide +kernel
theorem dX12_init_12 : decode cX12_init 12 = .ok (.aload_n 0, 1) := by decide +kernel
theorem dX12_init_13 : decode cX12_init 13 = .ok (.sipush 200, 3) := by decide +kernel
theorem dX12_init_16 : decode cX12_init 16 = .ok (.newarray .byte, 2) := by decide +kernel
theorem dX12_init_18 : decode cX12_init 18 = .ok (.putfield 13, 3) := by decide +kernel
theorem dX12_init_21 : decode cX12_init 21 = .ok (.aload_n 0, 1) := by decide +kernel
theorem dX12_init_22 : decode cX12_init 22 = .ok (.sipush 16400, 3) := by decide +kernel
theorem dX12_init_25 : decode cX12_init 25 = .ok (.newarray .byte, 2) := by decide +kernel
theorem dX12_init_27 : decode cX12_init 27 = .ok (.putfield 16, 3) := by decide +kernel
theorem dX12_init_30 : decode cX12_init 30 = .ok (.aload_n 0, 1) := by decide +kernel
theorem dX12_init_31 : decode cX12_init 31 = .ok (.ldc 19, 2) := by decide +kernel
theorem dX12_init_33 : decode cX12_init 33 = .ok (.newarray .byte, 2) := by decide +kernel
theorem dX12_init_35 : decode cX12_init 35 = .ok (.putfield 20, 3) := by decide +kernel
theorem dX12_init_38 : decode cX12_init 38 = .ok (.aload_n 0, 1) := by decide +kernel
theorem dX12_init_39 : decode cX12_init 39 = .ok (.ldc 23, 2) := by decide +kernel
theorem dX12_init_41 : decode cX12_init 41 = .ok (.newarray .byte, 2) := by decide +kernel
theorem dX12_init_43 : decode cX12_init 43 = .ok (.putfield 24, 3) := by decide +kernel
theorem dX12_init_46 : decode cX12_init 46 = .ok (.aload_n 0, 1) := by decide +kernel
theorem dX12_init_47 : decode cX12_init 47 = .ok (.bipush 8, 2) := by decide +kernel
theorem dX12_init_49 : decode cX12_init 49 = .ok (.newarray .int, 2) := by decide +kernel
theorem dX12_init_51 : decode cX12_init 51 = .ok (.putfield 27, 3) := by decide +kernel
theorem dX12_init_54 : decode cX12_init 54 = .ok (.aload_n 0, 1) := by decide +kernel
theorem dX12_init_55 : decode cX12_init 55 = .ok (.sipush 15360, 3) := by decide +kernel
theorem dX12_init_58 : decode cX12_init 58 = .ok (.newarray .byte, 2) := by decide +kernel
theorem dX12_init_60 : decode cX12_init 60 = .ok (.putfield 31, 3) := by decide +kernel
theorem dX12_init_63 : decode cX12_init 63 = .ok (.aload_n 0, 1) := by decide +kernel
theorem dX12_init_64 : decode cX12_init 64 = .ok (.iconst 3, 1) := by decide +kernel
theorem dX12_init_65 : decode cX12_init 65 = .ok (.putfield 34, 3) := by decide +kernel
theorem dX12_init_68 : decode cX12_init 68 = .ok (.return_, 1) := by decide +kernel
theorem dX12_thrown_0 : decode cX12_thrown 0 = .ok (.aload_n 0, 1) := by decide +kernel
theorem dX12_thrown_1 : decode cX12_thrown 1 = .ok (.getfield 38, 3) := by decide +kernel
theorem dX12_thrown_4 : decode cX12_thrown 4 = .ok (.ireturn, 1) := by decide +kernel
theorem dX12_behind_0 : decode cX12_behind 0 = .ok (.iload_n 1, 1) := by decide +kernel
theorem dX12_behind_1 : decode cX12_behind 1 = .ok (.iconst 2, 1) := by decide +kernel
theorem dX12_behind_2 : decode cX12_behind 2 = .ok (.iadd, 1) := by decide +kernel
theorem dX12_behind_3 : decode cX12_behind 3 = .ok (.aload_n 0, 1) := by decide +kernel
theorem dX12_behind_4 : decode cX12_behind 4 = .ok (.iload_n 1, 1) := by decide +kernel
theorem dX12_behind_5 : decode cX12_behind 5 = .ok (.baload, 1) := by decide +kernel
theorem dX12_behind_6 : decode cX12_behind 6 = .ok (.iadd, 1) := by decide +kernel
theorem dX12_behind_7 : decode cX12_behind 7 = .ok (.aload_n 0, 1) := by decide +kernel
theorem dX12_behind_8 : decode cX12_behind 8 = .ok (.iload_n 1, 1) := by decide +kernel
theorem dX12_behind_9 : decode cX12_behind 9 = .ok (.iconst 1, 1) := by decide +kernel
theorem dX12_behind_10 : decode cX12_behind 10 = .ok (.iadd, 1) := by decide +kernel
theorem dX12_behind_11 : decode cX12_behind 11 = .ok (.aload_n 0, 1) := by decide +kernel
theorem dX12_behind_12 : decode cX12_behind 12 = .ok (.iload_n 1, 1) := by decide +kernel
theorem dX12_behind_13 : decode cX12_behind 13 = .ok (.baload, 1) := by decide +kernel
theorem dX12_behind_14 : decode cX12_behind 14 = .ok (.iadd, 1) := by decide +kernel
theorem dX12_behind_15 : decode cX12_behind 15 = .ok (.baload, 1) := by decide +kernel
theorem dX12_behind_16 : decode cX12_behind 16 = .ok (.sipush 255, 3) := by decide +kernel
theorem dX12_behind_19 : decode cX12_behind 19 = .ok (.iand, 1) := by decide +kernel
theorem dX12_behind_20 : decode cX12_behind 20 = .ok (.iadd, 1) := by decide +kernel
theorem dX12_behind_21 : decode cX12_behind 21 = .ok (.ireturn, 1) := by decide +kernel
theorem dX12_size_0 : decode cX12_size 0 = .ok (.iconst 0, 1) := by decide +kernel
theorem dX12_size_1 : decode cX12_size 1 = .ok (.istore_n 3, 1) := by decide +kernel
theorem dX12_size_2 : decode cX12_size 2 = .ok (.iload_n 1, 1) := by decide +kernel
theorem dX12_size_3 : decode cX12_size 3 = .ok (.istore 4, 2) := by decide +kernel
theorem dX12_size_5 : decode cX12_size 5 = .ok (.iload 4, 2) := by decide +kernel
theorem dX12_size_7 : decode cX12_size 7 = .ok (.iload_n 1, 1) := by decide +kernel
theorem dX12_size_8 : decode cX12_size 8 = .ok (.iload_n 2, 1) := by decide +kernel
theorem dX12_size_9 : decode cX12_size 9 = .ok (.iadd, 1) := by decide +kernel
theorem dX12_size_10 : decode cX12_size 10 = .ok (.if_icmp .ge 29, 3) := by decide +kernel
theorem dX12_size_13 : decode cX12_size 13 = .ok (.iload_n 3, 1) := by decide +kernel
theorem dX12_size_14 : decode cX12_size 14 = .ok (.bipush 6, 2) := by decide +kernel
theorem dX12_size_16 : decode cX12_size 16 = .ok (.aload_n 0, 1) := by decide +kernel
theorem dX12_size_17 : decode cX12_size 17 = .ok (.iload 4, 2) := by decide +kernel
theorem dX12_size_19 : decode cX12_size 19 = .ok (.invokestatic 41, 3) := by decide +kernel
theorem dX12_size_22 : decode cX12_size 22 = .ok (.iadd, 1) := by decide +kernel
theorem dX12_size_23 : decode cX12_size 23 = .ok (.iload 4, 2) := by decide +kernel
theorem dX12_size_25 : decode cX12_size 25 = .ok (.isub, 1) := by decide +kernel
theorem dX12_size_26 : decode cX12_size 26 = .ok (.iadd, 1) := by decide +kernel
theorem dX12_size_27 : decode cX12_size 27 = .ok (.istore_n 3, 1) := by decide +kernel
theorem dX12_size_28 : decode cX12_size 28 = .ok (.aload_n 0, 1) := by decide +kernel
theorem dX12_size_29 : decode cX12_size 29 = .ok (.iload 4, 2) := by decide +kernel
theorem dX12_size_31 : decode cX12_size 31 = .ok (.invokestatic 41, 3) := by decide +kernel
theorem dX12_size_34 : decode cX12_size 34 = .ok (.istore 4, 2) := by decide +kernel
theorem dX12_size_36 : decode cX12_size 36 = .ok (.goto (-31), 3) := by decide +kernel
theorem dX12_size_39 : decode cX12_size 39 = .ok (.iload_n 3, 1) := by decide +kernel
theorem dX12_size_40 : decode cX12_size 40 = .ok (.ireturn, 1) := by decide +kernel
theorem dX12_many_0 : decode cX12_many 0 = .ok (.iconst 0, 1) := by decide +kernel
theorem dX12_many_1 : decode cX12_many 1 = .ok (.istore_n 3, 1) := by decide +kernel
theorem dX12_many_2 : decode cX12_many 2 = .ok (.iload_n 1, 1) := by decide +kernel
theorem dX12_many_3 : decode cX12_many 3 = .ok (.istore 4, 2) := by decide +kernel
theorem dX12_many_5 : decode cX12_many 5 = .ok (.iload 4, 2) := by decide +kernel
theorem dX12_many_7 : decode cX12_many 7 = .ok (.iload_n 1, 1) := by decide +kernel
theorem dX12_many_8 : decode cX12_many 8 = .ok (.iload_n 2, 1) := by decide +kernel
theorem dX12_many_9 : decode cX12_many 9 = .ok (.iadd, 1) := by decide +kernel
theorem dX12_many_10 : decode cX12_many 10 = .ok (.if_icmp .ge 17, 3) := by decide +kernel
theorem dX12_many_13 : decode cX12_many 13 = .ok (.iinc 3 1, 3) := by decide +kernel
theorem dX12_many_16 : decode cX12_many 16 = .ok (.aload_n 0, 1) := by decide +kernel
theorem dX12_many_17 : decode cX12_many 17 = .ok (.iload 4, 2) := by decide +kernel
theorem dX12_many_19 : decode cX12_many 19 = .ok (.invokestatic 41, 3) := by decide +kernel
theorem dX12_many_22 : decode cX12_many 22 = .ok (.istore 4, 2) := by decide +kernel
theorem dX12_many_24 : decode cX12_many 24 = .ok (.goto (-19), 3) := by decide +kernel
theorem dX12_many_27 : decode cX12_many 27 = .ok (.iload_n 3, 1) := by decide +kernel
theorem dX12_many_28 : decode cX12_many 28 = .ok (.ireturn, 1) := by decide +kernel
theorem dX12_compare_0 : decode cX12_compare 0 = .ok (.aload_n 0, 1) := by decide +kernel
theorem dX12_compare_1 : decode cX12_compare 1 = .ok (.iload_n 1, 1) := by decide +kernel
theorem dX12_compare_2 : decode cX12_compare 2 = .ok (.baload, 1) := by decide +kernel
theorem dX12_compare_3 : decode cX12_compare 3 = .ok (.istore 5, 2) := by decide +kernel
theorem dX12_compare_5 : decode cX12_compare 5 = .ok (.iconst 0, 1) := by decide +kernel
theorem dX12_compare_6 : decode cX12_compare 6 = .ok (.istore 6, 2) := by decide +kernel
theorem dX12_compare_8 : decode cX12_compare 8 = .ok (.iload 6, 2) := by decide +kernel
theorem dX12_compare_10 : decode cX12_compare 10 = .ok (.iload 5, 2) := by decide +kernel
theorem dX12_compare_12 : decode cX12_compare 12 = .ok (.if_icmp .ge 49, 3) := by decide +kernel
theorem dX12_compare_15 : decode cX12_compare 15 = .ok (.iload 6, 2) := by decide +kernel
theorem dX12_compare_17 : decode cX12_compare 17 = .ok (.iload 4, 2) := by decide +kernel
theorem dX12_compare_19 : decode cX12_compare 19 = .ok (.if_icmp .ge 42, 3) := by decide +kernel
theorem dX12_compare_22 : decode cX12_compare 22 = .ok (.aload_n 0, 1) := by decide +kernel
theorem dX12_compare_23 : decode cX12_compare 23 = .ok (.iload_n 1, 1) := by decide +kernel
theorem dX12_compare_24 : decode cX12_compare 24 = .ok (.iconst 1, 1) := by decide +kernel
theorem dX12_compare_25 : decode cX12_compare 25 = .ok (.iadd, 1) := by decide +kernel
theorem dX12_compare_26 : decode cX12_compare 26 = .ok (.iload 6, 2) := by decide +kernel
theorem dX12_compare_28 : decode cX12_compare 28 = .ok (.iadd, 1) := by decide +kernel
theorem dX12_compare_29 : decode cX12_compare 29 = .ok (.baload, 1) := by decide +kernel
theorem dX12_compare_30 : decode cX12_compare 30 = .ok (.sipush 255, 3) := by decide +kernel
theorem dX12_compare_33 : decode cX12_compare 33 = .ok (.iand, 1) := by decide +kernel
theorem dX12_compare_34 : decode cX12_compare 34 = .ok (.aload_n 2, 1) := by decide +kernel
theorem dX12_compare_35 : decode cX12_compare 35 = .ok (.iload_n 3, 1) := by decide +kernel
theorem dX12_compare_36 : decode cX12_compare 36 = .ok (.iload 6, 2) := by decide +kernel
theorem dX12_compare_38 : decode cX12_compare 38 = .ok (.iadd, 1) := by decide +kernel
theorem dX12_compare_39 : decode cX12_compare 39 = .ok (.baload, 1) := by decide +kernel
theorem dX12_compare_40 : decode cX12_compare 40 = .ok (.sipush 255, 3) := by decide +kernel
theorem dX12_compare_43 : decode cX12_compare 43 = .ok (.iand, 1) := by decide +kernel
theorem dX12_compare_44 : decode cX12_compare 44 = .ok (.isub, 1) := by decide +kernel
theorem dX12_compare_45 : decode cX12_compare 45 = .ok (.istore 7, 2) := by decide +kernel
theorem dX12_compare_47 : decode cX12_compare 47 = .ok (.iload 7, 2) := by decide +kernel
theorem dX12_compare_49 : decode cX12_compare 49 = .ok (.ifCond .eq 6, 3) := by decide +kernel
theorem dX12_compare_52 : decode cX12_compare 52 = .ok (.iload 7, 2) := by decide +kernel
theorem dX12_compare_54 : decode cX12_compare 54 = .ok (.ireturn, 1) := by decide +kernel
theorem dX12_compare_55 : decode cX12_compare 55 = .ok (.iinc 6 1, 3) := by decide +kernel
theorem dX12_compare_58 : decode cX12_compare 58 = .ok (.goto (-50), 3) := by decide +kernel
theorem dX12_compare_61 : decode cX12_compare 61 = .ok (.iload 5, 2) := by decide +kernel
theorem dX12_compare_63 : decode cX12_compare 63 = .ok (.iload 4, 2) := by decide +kernel
theorem dX12_compare_65 : decode cX12_compare 65 = .ok (.isub, 1) := by decide +kernel
theorem dX12_compare_66 : decode cX12_compare 66 = .ok (.ireturn, 1) := by decide +kernel
theorem dX12_set_0 : decode cX12_set 0 = .ok (.iconst 0, 1) := by decide +kernel
theorem dX12_set_1 : decode cX12_set 1 = .ok (.istore 7, 2) := by decide +kernel
theorem dX12_set_3 : decode cX12_set 3 = .ok (.iload 7, 2) := by decide +kernel
theorem dX12_set_5 : decode cX12_set 5 = .ok (.aload_n 0, 1) := by decide +kernel
theorem dX12_set_6 : decode cX12_set 6 = .ok (.getfield 45, 3) := by decide +kernel
theorem dX12_set_9 : decode cX12_set 9 = .ok (.if_icmp .ge 32, 3) := by decide +kernel
theorem dX12_set_12 : decode cX12_set 12 = .ok (.aload_n 0, 1) := by decide +kernel
theorem dX12_set_13 : decode cX12_set 13 = .ok (.getfield 20, 3) := by decide +kernel
theorem dX12_set_16 : decode cX12_set 16 = .ok (.iload 7, 2) := by decide +kernel
theorem dX12_set_18 : decode cX12_set 18 = .ok (.aload_n 1, 1) := by decide +kernel
theorem dX12_set_19 : decode cX12_set 19 = .ok (.iload_n 2, 1) := by decide +kernel
theorem dX12_set_20 : decode cX12_set 20 = .ok (.iload_n 3, 1) := by decide +kernel
theorem dX12_set_21 : decode cX12_set 21 = .ok (.invokestatic 48, 3) := by decide +kernel
theorem dX12_set_24 : decode cX12_set 24 = .ok (.ifCond .ge 17, 3) := by decide +kernel
theorem dX12_set_27 : decode cX12_set 27 = .ok (.aload_n 0, 1) := by decide +kernel
theorem dX12_set_28 : decode cX12_set 28 = .ok (.getfield 20, 3) := by decide +kernel
theorem dX12_set_31 : decode cX12_set 31 = .ok (.iload 7, 2) := by decide +kernel
theorem dX12_set_33 : decode cX12_set 33 = .ok (.invokestatic 41, 3) := by decide +kernel
theorem dX12_set_36 : decode cX12_set 36 = .ok (.istore 7, 2) := by decide +kernel
theorem dX12_set_38 : decode cX12_set 38 = .ok (.goto (-35), 3) := by decide +kernel
theorem dX12_set_41 : decode cX12_set 41 = .ok (.iload 7, 2) := by decide +kernel
theorem dX12_set_43 : decode cX12_set 43 = .ok (.aload_n 0, 1) := by decide +kernel
theorem dX12_set_44 : decode cX12_set 44 = .ok (.getfield 45, 3) := by decide +kernel
theorem dX12_set_47 : decode cX12_set 47 = .ok (.if_icmp .ge 65, 3) := by decide +kernel
theorem dX12_set_50 : decode cX12_set 50 = .ok (.aload_n 0, 1) := by decide +kernel
theorem dX12_set_51 : decode cX12_set 51 = .ok (.getfield 20, 3) := by decide +kernel
theorem dX12_set_54 : decode cX12_set 54 = .ok (.iload 7, 2) := by decide +kernel
theorem dX12_set_56 : decode cX12_set 56 = .ok (.aload_n 1, 1) := by decide +kernel
theorem dX12_set_57 : decode cX12_set 57 = .ok (.iload_n 2, 1) := by decide +kernel
theorem dX12_set_58 : decode cX12_set 58 = .ok (.iload_n 3, 1) := by decide +kernel
theorem dX12_set_59 : decode cX12_set 59 = .ok (.invokestatic 48, 3) := by decide +kernel
theorem dX12_set_62 : decode cX12_set 62 = .ok (.ifCond .ne 50, 3) := by decide +kernel
theorem dX12_set_65 : decode cX12_set 65 = .ok (.aload_n 0, 1) := by decide +kernel
theorem dX12_set_66 : decode cX12_set 66 = .ok (.getfield 20, 3) := by decide +kernel
theorem dX12_set_69 : decode cX12_set 69 = .ok (.iload 7, 2) := by decide +kernel
theorem dX12_set_71 : decode cX12_set 71 = .ok (.invokestatic 41, 3) := by decide +kernel
theorem dX12_set_74 : decode cX12_set 74 = .ok (.istore 8, 2) := by decide +kernel
theorem dX12_set_76 : decode cX12_set 76 = .ok (.aload_n 0, 1) := by decide +kernel
theorem dX12_set_77 : decode cX12_set 77 = .ok (.getfield 20, 3) := by decide +kernel
theorem dX12_set_80 : decode cX12_set 80 = .ok (.iload 8, 2) := by decide +kernel
theorem dX12_set_82 : decode cX12_set 82 = .ok (.aload_n 0, 1) := by decide +kernel
theorem dX12_set_83 : decode cX12_set 83 = .ok (.getfield 20, 3) := by decide +kernel
theorem dX12_set_86 : decode cX12_set 86 = .ok (.iload 7, 2) := by decide +kernel
theorem dX12_set_88 : decode cX12_set 88 = .ok (.aload_n 0, 1) := by decide +kernel
theorem dX12_set_89 : decode cX12_set 89 = .ok (.getfield 45, 3) := by decide +kernel
theorem dX12_set_92 : decode cX12_set 92 = .ok (.iload 8, 2) := by decide +kernel
theorem dX12_set_94 : decode cX12_set 94 = .ok (.isub, 1) := by decide +kernel
theorem dX12_set_95 : decode cX12_set 95 = .ok (.invokestatic 52, 3) := by decide +kernel
theorem dX12_set_98 : decode cX12_set 98 = .ok (.aload_n 0, 1) := by decide +kernel
theorem dX12_set_99 : decode cX12_set 99 = .ok (.dup, 1) := by decide +kernel
theorem dX12_set_100 : decode cX12_set 100 = .ok (.getfield 45, 3) := by decide +kernel
theorem dX12_set_103 : decode cX12_set 103 = .ok (.iload 8, 2) := by decide +kernel
theorem dX12_set_105 : decode cX12_set 105 = .ok (.iload 7, 2) := by decide +kernel
theorem dX12_set_107 : decode cX12_set 107 = .ok (.isub, 1) := by decide +kernel
theorem dX12_set_108 : decode cX12_set 108 = .ok (.isub, 1) := by decide +kernel
theorem dX12_set_109 : decode cX12_set 109 = .ok (.putfield 45, 3) := by decide +kernel
theorem dX12_set_112 : decode cX12_set 112 = .ok (.iload 5, 2) := by decide +kernel
theorem dX12_set_114 : decode cX12_set 114 = .ok (.ifCond .ge 4, 3) := by decide +kernel
theorem dX12_set_117 : decode cX12_set 117 = .ok (.return_, 1) := by decide +kernel
theorem dX12_set_118 : decode cX12_set 118 = .ok (.iconst 2, 1) := by decide +kernel
theorem dX12_set_119 : decode cX12_set 119 = .ok (.iload_n 3, 1) := by decide +kernel
theorem dX12_set_120 : decode cX12_set 120 = .ok (.iadd, 1) := by decide +kernel
theorem dX12_set_121 : decode cX12_set 121 = .ok (.iload 6, 2) := by decide +kernel
theorem dX12_set_123 : decode cX12_set 123 = .ok (.iadd, 1) := by decide +kernel
theorem dX12_set_124 : decode cX12_set 124 = .ok (.istore 8, 2) := by decide +kernel
theorem dX12_set_126 : decode cX12_set 126 = .ok (.aload_n 0, 1) := by decide +kernel
theorem dX12_set_127 : decode cX12_set 127 = .ok (.getfield 20, 3) := by decide +kernel
theorem dX12_set_130 : decode cX12_set 130 = .ok (.iload 7, 2) := by decide +kernel
theorem dX12_set_132 : decode cX12_set 132 = .ok (.aload_n 0, 1) := by decide +kernel
theorem dX12_set_133 : decode cX12_set 133 = .ok (.getfield 20, 3) := by decide +kernel
theorem dX12_set_136 : decode cX12_set 136 = .ok (.iload 7, 2) := by decide +kernel
theorem dX12_set_138 : decode cX12_set 138 = .ok (.iload 8, 2) := by decide +kernel
theorem dX12_set_140 : decode cX12_set 140 = .ok (.iadd, 1) := by decide +kernel
theorem dX12_set_141 : decode cX12_set 141 = .ok (.aload_n 0, 1) := by decide +kernel
theorem dX12_set_142 : decode cX12_set 142 = .ok (.getfield 45, 3) := by decide +kernel
theorem dX12_set_145 : decode cX12_set 145 = .ok (.iload 7, 2) := by decide +kernel
theorem dX12_set_147 : decode cX12_set 147 = .ok (.isub, 1) := by decide +kernel
theorem dX12_set_148 : decode cX12_set 148 = .ok (.invokestatic 52, 3) := by decide +kernel
theorem dX12_set_151 : decode cX12_set 151 = .ok (.aload_n 0, 1) := by decide +kernel
theorem dX12_set_152 : decode cX12_set 152 = .ok (.dup, 1) := by decide +kernel
theorem dX12_set_153 : decode cX12_set 153 = .ok (.getfield 45, 3) := by decide +kernel
theorem dX12_set_156 : decode cX12_set 156 = .ok (.iload 8, 2) := by decide +kernel
theorem dX12_set_158 : decode cX12_set 158 = .ok (.iadd, 1) := by decide +kernel
theorem dX12_set_159 : decode cX12_set 159 = .ok (.putfield 45, 3) := by decide +kernel
theorem dX12_set_162 : decode cX12_set 162 = .ok (.aload_n 0, 1) := by decide +kernel
theorem dX12_set_163 : decode cX12_set 163 = .ok (.getfield 20, 3) := by decide +kernel
theorem dX12_set_166 : decode cX12_set 166 = .ok (.iload 7, 2) := by decide +kernel
theorem dX12_set_168 : decode cX12_set 168 = .ok (.iload_n 3, 1) := by decide +kernel
theorem dX12_set_169 : decode cX12_set 169 = .ok (.i2b, 1) := by decide +kernel
theorem dX12_set_170 : decode cX12_set 170 = .ok (.bastore, 1) := by decide +kernel
theorem dX12_set_171 : decode cX12_set 171 = .ok (.aload_n 1, 1) := by decide +kernel
theorem dX12_set_172 : decode cX12_set 172 = .ok (.iload_n 2, 1) := by decide +kernel
theorem dX12_set_173 : decode cX12_set 173 = .ok (.aload_n 0, 1) := by decide +kernel
theorem dX12_set_174 : decode cX12_set 174 = .ok (.getfield 20, 3) := by decide +kernel
theorem dX12_set_177 : decode cX12_set 177 = .ok (.iload 7, 2) := by decide +kernel
theorem dX12_set_179 : decode cX12_set 179 = .ok (.iconst 1, 1) := by decide +kernel
theorem dX12_set_180 : decode cX12_set 180 = .ok (.iadd, 1) := by decide +kernel
theorem dX12_set_181 : decode cX12_set 181 = .ok (.iload_n 3, 1) := by decide +kernel
theorem dX12_set_182 : decode cX12_set 182 = .ok (.invokestatic 52, 3) := by decide +kernel
theorem dX12_set_185 : decode cX12_set 185 = .ok (.aload_n 0, 1) := by decide +kernel
theorem dX12_set_186 : decode cX12_set 186 = .ok (.getfield 20, 3) := by decide +kernel
theorem dX12_set_189 : decode cX12_set 189 = .ok (.iload 7, 2) := by decide +kernel
theorem dX12_set_191 : decode cX12_set 191 = .ok (.iconst 1, 1) := by decide +kernel
theorem dX12_set_192 : decode cX12_set 192 = .ok (.iadd, 1) := by decide +kernel
theorem dX12_set_193 : decode cX12_set 193 = .ok (.iload_n 3, 1) := by decide +kernel
theorem dX12_set_194 : decode cX12_set 194 = .ok (.iadd, 1) := by decide +kernel
theorem dX12_set_195 : decode cX12_set 195 = .ok (.iload 6, 2) := by decide +kernel
theorem dX12_set_197 : decode cX12_set 197 = .ok (.i2b, 1) := by decide +kernel
theorem dX12_set_198 : decode cX12_set 198 = .ok (.bastore, 1) := by decide +kernel
theorem dX12_set_199 : decode cX12_set 199 = .ok (.aload 4, 2) := by decide +kernel
theorem dX12_set_201 : decode cX12_set 201 = .ok (.iload 5, 2) := by decide +kernel
theorem dX12_set_203 : decode cX12_set 203 = .ok (.aload_n 0, 1) := by decide +kernel
theorem dX12_set_204 : decode cX12_set 204 = .ok (.getfield 20, 3) := by decide +kernel
theorem dX12_set_207 : decode cX12_set 207 = .ok (.iload 7, 2) := by decide +kernel
theorem dX12_set_209 : decode cX12_set 209 = .ok (.iconst 2, 1) := by decide +kernel
theorem dX12_set_210 : decode cX12_set 210 = .ok (.iadd, 1) := by decide +kernel
theorem dX12_set_211 : decode cX12_set 211 = .ok (.iload_n 3, 1) := by decide +kernel
theorem dX12_set_212 : decode cX12_set 212 = .ok (.iadd, 1) := by decide +kernel
theorem dX12_set_213 : decode cX12_set 213 = .ok (.iload 6, 2) := by decide +kernel
theorem dX12_set_215 : decode cX12_set 215 = .ok (.invokestatic 52, 3) := by decide +kernel
theorem dX12_set_218 : decode cX12_set 218 = .ok (.return_, 1) := by decide +kernel
theorem dX12_begun_0 : decode cX12_begun 0 = .ok (.aload_n 0, 1) := by decide +kernel
theorem dX12_begun_1 : decode cX12_begun 1 = .ok (.getfield 16, 3) := by decide +kernel
theorem dX12_begun_4 : decode cX12_begun 4 = .ok (.iconst 0, 1) := by decide +kernel
theorem dX12_begun_5 : decode cX12_begun 5 = .ok (.aload_n 0, 1) := by decide +kernel
theorem dX12_begun_6 : decode cX12_begun 6 = .ok (.getfield 20, 3) := by decide +kernel
theorem dX12_begun_9 : decode cX12_begun 9 = .ok (.iconst 0, 1) := by decide +kernel
theorem dX12_begun_10 : decode cX12_begun 10 = .ok (.aload_n 0, 1) := by decide +kernel
theorem dX12_begun_11 : decode cX12_begun 11 = .ok (.getfield 58, 3) := by decide +kernel
theorem dX12_begun_14 : decode cX12_begun 14 = .ok (.invokestatic 52, 3) := by decide +kernel
theorem dX12_begun_17 : decode cX12_begun 17 = .ok (.aload_n 0, 1) := by decide +kernel
theorem dX12_begun_18 : decode cX12_begun 18 = .ok (.aload_n 0, 1) := by decide +kernel
theorem dX12_begun_19 : decode cX12_begun 19 = .ok (.getfield 58, 3) := by decide +kernel
theorem dX12_begun_22 : decode cX12_begun 22 = .ok (.putfield 45, 3) := by decide +kernel
theorem dX12_begun_25 : decode cX12_begun 25 = .ok (.return_, 1) := by decide +kernel
theorem dX12_done_0 : decode cX12_done 0 = .ok (.aload_n 0, 1) := by decide +kernel
theorem dX12_done_1 : decode cX12_done 1 = .ok (.getfield 34, 3) := by decide +kernel
theorem dX12_done_4 : decode cX12_done 4 = .ok (.istore_n 1, 1) := by decide +kernel
theorem dX12_done_5 : decode cX12_done 5 = .ok (.iload_n 1, 1) := by decide +kernel
theorem dX12_done_6 : decode cX12_done 6 = .ok (.ifCond .ne 12, 3) := by decide +kernel
theorem dX12_done_9 : decode cX12_done 9 = .ok (.aload_n 0, 1) := by decide +kernel
theorem dX12_done_10 : decode cX12_done 10 = .ok (.invokevirtual 61, 3) := by decide +kernel
theorem dX12_done_13 : decode cX12_done 13 = .ok (.aload_n 0, 1) := by decide +kernel
theorem dX12_done_14 : decode cX12_done 14 = .ok (.invokevirtual 64, 3) := by decide +kernel
theorem dX12_done_17 : decode cX12_done 17 = .ok (.ireturn, 1) := by decide +kernel
theorem dX12_done_18 : decode cX12_done 18 = .ok (.aload_n 0, 1) := by decide +kernel
theorem dX12_done_19 : decode cX12_done 19 = .ok (.getfield 20, 3) := by decide +kernel
theorem dX12_done_22 : decode cX12_done 22 = .ok (.iconst 0, 1) := by decide +kernel
theorem dX12_done_23 : decode cX12_done 23 = .ok (.aload_n 0, 1) := by decide +kernel
theorem dX12_done_24 : decode cX12_done 24 = .ok (.getfield 16, 3) := by decide +kernel
theorem dX12_done_27 : decode cX12_done 27 = .ok (.iconst 0, 1) := by decide +kernel
theorem dX12_done_28 : decode cX12_done 28 = .ok (.aload_n 0, 1) := by decide +kernel
theorem dX12_done_29 : decode cX12_done 29 = .ok (.getfield 45, 3) := by decide +kernel
theorem dX12_done_32 : decode cX12_done 32 = .ok (.invokestatic 52, 3) := by decide +kernel
theorem dX12_done_35 : decode cX12_done 35 = .ok (.aload_n 0, 1) := by decide +kernel
theorem dX12_done_36 : decode cX12_done 36 = .ok (.aload_n 0, 1) := by decide +kernel
theorem dX12_done_37 : decode cX12_done 37 = .ok (.getfield 45, 3) := by decide +kernel
theorem dX12_done_40 : decode cX12_done 40 = .ok (.putfield 58, 3) := by decide +kernel
theorem dX12_done_43 : decode cX12_done 43 = .ok (.aload_n 0, 1) := by decide +kernel
theorem dX12_done_44 : decode cX12_done 44 = .ok (.dup, 1) := by decide +kernel
theorem dX12_done_45 : decode cX12_done 45 = .ok (.getfield 68, 3) := by decide +kernel
theorem dX12_done_48 : decode cX12_done 48 = .ok (.iconst 1, 1) := by decide +kernel
theorem dX12_done_49 : decode cX12_done 49 = .ok (.iadd, 1) := by decide +kernel
theorem dX12_done_50 : decode cX12_done 50 = .ok (.putfield 68, 3) := by decide +kernel
theorem dX12_done_53 : decode cX12_done 53 = .ok (.iload_n 1, 1) := by decide +kernel
theorem dX12_done_54 : decode cX12_done 54 = .ok (.iconst 1, 1) := by decide +kernel
theorem dX12_done_55 : decode cX12_done 55 = .ok (.if_icmp .ne 12, 3) := by decide +kernel
theorem dX12_done_58 : decode cX12_done 58 = .ok (.aload_n 0, 1) := by decide +kernel
theorem dX12_done_59 : decode cX12_done 59 = .ok (.invokevirtual 61, 3) := by decide +kernel
theorem dX12_done_62 : decode cX12_done 62 = .ok (.aload_n 0, 1) := by decide +kernel
theorem dX12_done_63 : decode cX12_done 63 = .ok (.invokevirtual 64, 3) := by decide +kernel
theorem dX12_done_66 : decode cX12_done 66 = .ok (.ireturn, 1) := by decide +kernel
theorem dX12_done_67 : decode cX12_done 67 = .ok (.aload_n 0, 1) := by decide +kernel
theorem dX12_done_68 : decode cX12_done 68 = .ok (.getfield 16, 3) := by decide +kernel
theorem dX12_done_71 : decode cX12_done 71 = .ok (.iconst 0, 1) := by decide +kernel
theorem dX12_done_72 : decode cX12_done 72 = .ok (.aload_n 0, 1) := by decide +kernel
theorem dX12_done_73 : decode cX12_done 73 = .ok (.getfield 58, 3) := by decide +kernel
theorem dX12_done_76 : decode cX12_done 76 = .ok (.invokestatic 71, 3) := by decide +kernel
theorem dX12_done_79 : decode cX12_done 79 = .ok (.ireturn, 1) := by decide +kernel
theorem dX12_failed_0 : decode cX12_failed 0 = .ok (.aload_n 0, 1) := by decide +kernel
theorem dX12_failed_1 : decode cX12_failed 1 = .ok (.iconst 3, 1) := by decide +kernel
theorem dX12_failed_2 : decode cX12_failed 2 = .ok (.putfield 38, 3) := by decide +kernel
theorem dX12_failed_5 : decode cX12_failed 5 = .ok (.iconst 0, 1) := by decide +kernel
theorem dX12_failed_6 : decode cX12_failed 6 = .ok (.ireturn, 1) := by decide +kernel
theorem dX12_fall_0 : decode cX12_fall 0 = .ok (.aload_n 0, 1) := by decide +kernel
theorem dX12_fall_1 : decode cX12_fall 1 = .ok (.iconst 1, 1) := by decide +kernel
theorem dX12_fall_2 : decode cX12_fall 2 = .ok (.putfield 75, 3) := by decide +kernel
theorem dX12_fall_5 : decode cX12_fall 5 = .ok (.aload_n 0, 1) := by decide +kernel
theorem dX12_fall_6 : decode cX12_fall 6 = .ok (.iconst 3, 1) := by decide +kernel
theorem dX12_fall_7 : decode cX12_fall 7 = .ok (.putfield 34, 3) := by decide +kernel
theorem dX12_fall_10 : decode cX12_fall 10 = .ok (.aload_n 0, 1) := by decide +kernel
theorem dX12_fall_11 : decode cX12_fall 11 = .ok (.invokevirtual 79, 3) := by decide +kernel
theorem dX12_fall_14 : decode cX12_fall 14 = .ok (.return_, 1) := by decide +kernel
theorem dX12_lost_0 : decode cX12_lost 0 = .ok (.aload_n 0, 1) := by decide +kernel
theorem dX12_lost_1 : decode cX12_lost 1 = .ok (.iconst 0, 1) := by decide +kernel
theorem dX12_lost_2 : decode cX12_lost 2 = .ok (.putfield 82, 3) := by decide +kernel
theorem dX12_lost_5 : decode cX12_lost 5 = .ok (.aload_n 0, 1) := by decide +kernel
theorem dX12_lost_6 : decode cX12_lost 6 = .ok (.iconst 0, 1) := by decide +kernel
theorem dX12_lost_7 : decode cX12_lost 7 = .ok (.putfield 85, 3) := by decide +kernel
theorem dX12_lost_10 : decode cX12_lost 10 = .ok (.aload_n 0, 1) := by decide +kernel
theorem dX12_lost_11 : decode cX12_lost 11 = .ok (.iconst 0, 1) := by decide +kernel
theorem dX12_lost_12 : decode cX12_lost 12 = .ok (.putfield 88, 3) := by decide +kernel
theorem dX12_lost_15 : decode cX12_lost 15 = .ok (.aload_n 0, 1) := by decide +kernel
theorem dX12_lost_16 : decode cX12_lost 16 = .ok (.iconst 0, 1) := by decide +kernel
theorem dX12_lost_17 : decode cX12_lost 17 = .ok (.putfield 91, 3) := by decide +kernel
theorem dX12_lost_20 : decode cX12_lost 20 = .ok (.return_, 1) := by decide +kernel
theorem dX12_key_0 : decode cX12_key 0 = .ok (.iload 4, 2) := by decide +kernel
theorem dX12_key_2 : decode cX12_key 2 = .ok (.ifCond .eq 7, 3) := by decide +kernel
theorem dX12_key_5 : decode cX12_key 5 = .ok (.iconst 0, 1) := by decide +kernel
theorem dX12_key_6 : decode cX12_key 6 = .ok (.goto 7, 3) := by decide +kernel
theorem dX12_key_9 : decode cX12_key 9 = .ok (.aload_n 0, 1) := by decide +kernel
theorem dX12_key_10 : decode cX12_key 10 = .ok (.getfield 94, 3) := by decide +kernel
theorem dX12_key_13 : decode cX12_key 13 = .ok (.istore 5, 2) := by decide +kernel
theorem dX12_key_15 : decode cX12_key 15 = .ok (.aload_n 0, 1) := by decide +kernel
theorem dX12_key_16 : decode cX12_key 16 = .ok (.iload_n 3, 1) := by decide +kernel
theorem dX12_key_17 : decode cX12_key 17 = .ok (.ifCond .lt 18, 3) := by decide +kernel
theorem dX12_key_20 : decode cX12_key 20 = .ok (.iload_n 3, 1) := by decide +kernel
theorem dX12_key_21 : decode cX12_key 21 = .ok (.bipush 8, 2) := by decide +kernel
theorem dX12_key_23 : decode cX12_key 23 = .ok (.if_icmp .gt 12, 3) := by decide +kernel
theorem dX12_key_26 : decode cX12_key 26 = .ok (.iload 5, 2) := by decide +kernel
theorem dX12_key_28 : decode cX12_key 28 = .ok (.iload_n 3, 1) := by decide +kernel
theorem dX12_key_29 : decode cX12_key 29 = .ok (.iadd, 1) := by decide +kernel
theorem dX12_key_30 : decode cX12_key 30 = .ok (.bipush 32, 2) := by decide +kernel
theorem dX12_key_32 : decode cX12_key 32 = .ok (.if_icmp .le 7, 3) := by decide +kernel
theorem dX12_key_35 : decode cX12_key 35 = .ok (.iconst 1, 1) := by decide +kernel
theorem dX12_key_36 : decode cX12_key 36 = .ok (.goto 4, 3) := by decide +kernel
theorem dX12_key_39 : decode cX12_key 39 = .ok (.iconst 0, 1) := by decide +kernel
theorem dX12_key_40 : decode cX12_key 40 = .ok (.putfield 38, 3) := by decide +kernel
theorem dX12_key_43 : decode cX12_key 43 = .ok (.aload_n 0, 1) := by decide +kernel
theorem dX12_key_44 : decode cX12_key 44 = .ok (.getfield 38, 3) := by decide +kernel
theorem dX12_key_47 : decode cX12_key 47 = .ok (.ifCond .le 5, 3) := by decide +kernel
theorem dX12_key_50 : decode cX12_key 50 = .ok (.iconst 0, 1) := by decide +kernel
theorem dX12_key_51 : decode cX12_key 51 = .ok (.ireturn, 1) := by decide +kernel
theorem dX12_key_52 : decode cX12_key 52 = .ok (.aload_n 0, 1) := by decide +kernel
theorem dX12_key_53 : decode cX12_key 53 = .ok (.iload 5, 2) := by decide +kernel
theorem dX12_key_55 : decode cX12_key 55 = .ok (.putfield 94, 3) := by decide +kernel
theorem dX12_key_58 : decode cX12_key 58 = .ok (.iload_n 3, 1) := by decide +kernel
theorem dX12_key_59 : decode cX12_key 59 = .ok (.iconst 1, 1) := by decide +kernel
theorem dX12_key_60 : decode cX12_key 60 = .ok (.isub, 1) := by decide +kernel
theorem dX12_key_61 : decode cX12_key 61 = .ok (.istore 6, 2) := by decide +kernel
theorem dX12_key_63 : decode cX12_key 63 = .ok (.iload 6, 2) := by decide +kernel
theorem dX12_key_65 : decode cX12_key 65 = .ok (.ifCond .lt 34, 3) := by decide +kernel
theorem dX12_key_68 : decode cX12_key 68 = .ok (.aload_n 0, 1) := by decide +kernel
theorem dX12_key_69 : decode cX12_key 69 = .ok (.getfield 9, 3) := by decide +kernel
theorem dX12_key_72 : decode cX12_key 72 = .ok (.aload_n 0, 1) := by decide +kernel
theorem dX12_key_73 : decode cX12_key 73 = .ok (.dup, 1) := by decide +kernel
theorem dX12_key_74 : decode cX12_key 74 = .ok (.getfield 94, 3) := by decide +kernel
theorem dX12_key_77 : decode cX12_key 77 = .ok (.dup_x1, 1) := by decide +kernel
theorem dX12_key_78 : decode cX12_key 78 = .ok (.iconst 1, 1) := by decide +kernel
theorem dX12_key_79 : decode cX12_key 79 = .ok (.iadd, 1) := by decide +kernel
theorem dX12_key_80 : decode cX12_key 80 = .ok (.putfield 94, 3) := by decide +kernel
theorem dX12_key_83 : decode cX12_key 83 = .ok (.lload_n 1, 1) := by decide +kernel
theorem dX12_key_84 : decode cX12_key 84 = .ok (.bipush 8, 2) := by decide +kernel
theorem dX12_key_86 : decode cX12_key 86 = .ok (.iload 6, 2) := by decide +kernel
theorem dX12_key_88 : decode cX12_key 88 = .ok (.imul, 1) := by decide +kernel
theorem dX12_key_89 : decode cX12_key 89 = .ok (.lshr, 1) := by decide +kernel
theorem dX12_key_90 : decode cX12_key 90 = .ok (.l2i, 1) := by decide +kernel
theorem dX12_key_91 : decode cX12_key 91 = .ok (.i2b, 1) := by decide +kernel
theorem dX12_key_92 : decode cX12_key 92 = .ok (.bastore, 1) := by decide +kernel
theorem dX12_key_93 : decode cX12_key 93 = .ok (.iinc 6 (-1), 3) := by decide +kernel
theorem dX12_key_96 : decode cX12_key 96 = .ok (.goto (-33), 3) := by decide +kernel
theorem dX12_key_99 : decode cX12_key 99 = .ok (.aload_n 0, 1) := by decide +kernel
theorem dX12_key_100 : decode cX12_key 100 = .ok (.getfield 94, 3) := by decide +kernel
theorem dX12_key_103 : decode cX12_key 103 = .ok (.ireturn, 1) := by decide +kernel
theorem dX12_value_0 : decode cX12_value 0 = .ok (.iload 4, 2) := by decide +kernel
theorem dX12_value_2 : decode cX12_value 2 = .ok (.ifCond .eq 7, 3) := by decide +kernel
theorem dX12_value_5 : decode cX12_value 5 = .ok (.iconst 0, 1) := by decide +kernel
theorem dX12_value_6 : decode cX12_value 6 = .ok (.goto 7, 3) := by decide +kernel
theorem dX12_value_9 : decode cX12_value 9 = .ok (.aload_n 0, 1) := by decide +kernel
theorem dX12_value_10 : decode cX12_value 10 = .ok (.getfield 97, 3) := by decide +kernel
theorem dX12_value_13 : decode cX12_value 13 = .ok (.istore 5, 2) := by decide +kernel
theorem dX12_value_15 : decode cX12_value 15 = .ok (.aload_n 0, 1) := by decide +kernel
theorem dX12_value_16 : decode cX12_value 16 = .ok (.iload_n 3, 1) := by decide +kernel
theorem dX12_value_17 : decode cX12_value 17 = .ok (.ifCond .lt 19, 3) := by decide +kernel
theorem dX12_value_20 : decode cX12_value 20 = .ok (.iload_n 3, 1) := by decide +kernel
theorem dX12_value_21 : decode cX12_value 21 = .ok (.bipush 8, 2) := by decide +kernel
theorem dX12_value_23 : decode cX12_value 23 = .ok (.if_icmp .gt 13, 3) := by decide +kernel
theorem dX12_value_26 : decode cX12_value 26 = .ok (.iload 5, 2) := by decide +kernel
theorem dX12_value_28 : decode cX12_value 28 = .ok (.iload_n 3, 1) := by decide +kernel
theorem dX12_value_29 : decode cX12_value 29 = .ok (.iadd, 1) := by decide +kernel
theorem dX12_value_30 : decode cX12_value 30 = .ok (.sipush 200, 3) := by decide +kernel
theorem dX12_value_33 : decode cX12_value 33 = .ok (.if_icmp .le 7, 3) := by decide +kernel
theorem dX12_value_36 : decode cX12_value 36 = .ok (.iconst 1, 1) := by decide +kernel
theorem dX12_value_37 : decode cX12_value 37 = .ok (.goto 4, 3) := by decide +kernel
theorem dX12_value_40 : decode cX12_value 40 = .ok (.iconst 0, 1) := by decide +kernel
theorem dX12_value_41 : decode cX12_value 41 = .ok (.putfield 38, 3) := by decide +kernel
theorem dX12_value_44 : decode cX12_value 44 = .ok (.aload_n 0, 1) := by decide +kernel
theorem dX12_value_45 : decode cX12_value 45 = .ok (.getfield 38, 3) := by decide +kernel
theorem dX12_value_48 : decode cX12_value 48 = .ok (.ifCond .le 5, 3) := by decide +kernel
theorem dX12_value_51 : decode cX12_value 51 = .ok (.iconst 0, 1) := by decide +kernel
theorem dX12_value_52 : decode cX12_value 52 = .ok (.ireturn, 1) := by decide +kernel
theorem dX12_value_53 : decode cX12_value 53 = .ok (.aload_n 0, 1) := by decide +kernel
theorem dX12_value_54 : decode cX12_value 54 = .ok (.iload 5, 2) := by decide +kernel
theorem dX12_value_56 : decode cX12_value 56 = .ok (.putfield 97, 3) := by decide +kernel
theorem dX12_value_59 : decode cX12_value 59 = .ok (.iload_n 3, 1) := by decide +kernel
theorem dX12_value_60 : decode cX12_value 60 = .ok (.iconst 1, 1) := by decide +kernel
theorem dX12_value_61 : decode cX12_value 61 = .ok (.isub, 1) := by decide +kernel
theorem dX12_value_62 : decode cX12_value 62 = .ok (.istore 6, 2) := by decide +kernel
theorem dX12_value_64 : decode cX12_value 64 = .ok (.iload 6, 2) := by decide +kernel
theorem dX12_value_66 : decode cX12_value 66 = .ok (.ifCond .lt 34, 3) := by decide +kernel
theorem dX12_value_69 : decode cX12_value 69 = .ok (.aload_n 0, 1) := by decide +kernel
theorem dX12_value_70 : decode cX12_value 70 = .ok (.getfield 13, 3) := by decide +kernel
theorem dX12_value_73 : decode cX12_value 73 = .ok (.aload_n 0, 1) := by decide +kernel
theorem dX12_value_74 : decode cX12_value 74 = .ok (.dup, 1) := by decide +kernel
theorem dX12_value_75 : decode cX12_value 75 = .ok (.getfield 97, 3) := by decide +kernel
theorem dX12_value_78 : decode cX12_value 78 = .ok (.dup_x1, 1) := by decide +kernel
theorem dX12_value_79 : decode cX12_value 79 = .ok (.iconst 1, 1) := by decide +kernel
theorem dX12_value_80 : decode cX12_value 80 = .ok (.iadd, 1) := by decide +kernel
theorem dX12_value_81 : decode cX12_value 81 = .ok (.putfield 97, 3) := by decide +kernel
theorem dX12_value_84 : decode cX12_value 84 = .ok (.lload_n 1, 1) := by decide +kernel
theorem dX12_value_85 : decode cX12_value 85 = .ok (.bipush 8, 2) := by decide +kernel
theorem dX12_value_87 : decode cX12_value 87 = .ok (.iload 6, 2) := by decide +kernel
theorem dX12_value_89 : decode cX12_value 89 = .ok (.imul, 1) := by decide +kernel
theorem dX12_value_90 : decode cX12_value 90 = .ok (.lshr, 1) := by decide +kernel
theorem dX12_value_91 : decode cX12_value 91 = .ok (.l2i, 1) := by decide +kernel
theorem dX12_value_92 : decode cX12_value 92 = .ok (.i2b, 1) := by decide +kernel
theorem dX12_value_93 : decode cX12_value 93 = .ok (.bastore, 1) := by decide +kernel
theorem dX12_value_94 : decode cX12_value 94 = .ok (.iinc 6 (-1), 3) := by decide +kernel
theorem dX12_value_97 : decode cX12_value 97 = .ok (.goto (-33), 3) := by decide +kernel
theorem dX12_value_100 : decode cX12_value 100 = .ok (.aload_n 0, 1) := by decide +kernel
theorem dX12_value_101 : decode cX12_value 101 = .ok (.getfield 97, 3) := by decide +kernel
theorem dX12_value_104 : decode cX12_value 104 = .ok (.ireturn, 1) := by decide +kernel
theorem dX12_begin_0 : decode cX12_begin 0 = .ok (.aload_n 0, 1) := by decide +kernel
theorem dX12_begin_1 : decode cX12_begin 1 = .ok (.aload_n 0, 1) := by decide +kernel
theorem dX12_begin_2 : decode cX12_begin 2 = .ok (.getfield 75, 3) := by decide +kernel
theorem dX12_begin_5 : decode cX12_begin 5 = .ok (.ifCond .ne 10, 3) := by decide +kernel
theorem dX12_begin_8 : decode cX12_begin 8 = .ok (.aload_n 0, 1) := by decide +kernel
theorem dX12_begin_9 : decode cX12_begin 9 = .ok (.getfield 82, 3) := by decide +kernel
theorem dX12_begin_12 : decode cX12_begin 12 = .ok (.ifCond .eq 7, 3) := by decide +kernel
theorem dX12_begin_15 : decode cX12_begin 15 = .ok (.iconst 1, 1) := by decide +kernel
theorem dX12_begin_16 : decode cX12_begin 16 = .ok (.goto 4, 3) := by decide +kernel
theorem dX12_begin_19 : decode cX12_begin 19 = .ok (.iconst 0, 1) := by decide +kernel
theorem dX12_begin_20 : decode cX12_begin 20 = .ok (.putfield 38, 3) := by decide +kernel
theorem dX12_begin_23 : decode cX12_begin 23 = .ok (.aload_n 0, 1) := by decide +kernel
theorem dX12_begin_24 : decode cX12_begin 24 = .ok (.getfield 38, 3) := by decide +kernel
theorem dX12_begin_27 : decode cX12_begin 27 = .ok (.ifCond .le 4, 3) := by decide +kernel
theorem dX12_begin_30 : decode cX12_begin 30 = .ok (.return_, 1) := by decide +kernel
theorem dX12_begin_31 : decode cX12_begin 31 = .ok (.aload_n 0, 1) := by decide +kernel
theorem dX12_begin_32 : decode cX12_begin 32 = .ok (.iconst 1, 1) := by decide +kernel
theorem dX12_begin_33 : decode cX12_begin 33 = .ok (.putfield 82, 3) := by decide +kernel
theorem dX12_begin_36 : decode cX12_begin 36 = .ok (.aload_n 0, 1) := by decide +kernel
theorem dX12_begin_37 : decode cX12_begin 37 = .ok (.iconst 0, 1) := by decide +kernel
theorem dX12_begin_38 : decode cX12_begin 38 = .ok (.putfield 85, 3) := by decide +kernel
theorem dX12_begin_41 : decode cX12_begin 41 = .ok (.aload_n 0, 1) := by decide +kernel
theorem dX12_begin_42 : decode cX12_begin 42 = .ok (.iconst 0, 1) := by decide +kernel
theorem dX12_begin_43 : decode cX12_begin 43 = .ok (.putfield 88, 3) := by decide +kernel
theorem dX12_begin_46 : decode cX12_begin 46 = .ok (.return_, 1) := by decide +kernel
theorem dX12_change_0 : decode cX12_change 0 = .ok (.aload_n 0, 1) := by decide +kernel
theorem dX12_change_1 : decode cX12_change 1 = .ok (.aload_n 0, 1) := by decide +kernel
theorem dX12_change_2 : decode cX12_change 2 = .ok (.getfield 75, 3) := by decide +kernel
theorem dX12_change_5 : decode cX12_change 5 = .ok (.ifCond .eq 7, 3) := by decide +kernel
theorem dX12_change_8 : decode cX12_change 8 = .ok (.iconst 1, 1) := by decide +kernel
theorem dX12_change_9 : decode cX12_change 9 = .ok (.goto 35, 3) := by decide +kernel
theorem dX12_change_12 : decode cX12_change 12 = .ok (.aload_n 0, 1) := by decide +kernel
theorem dX12_change_13 : decode cX12_change 13 = .ok (.getfield 94, 3) := by decide +kernel
theorem dX12_change_16 : decode cX12_change 16 = .ok (.ifCond .ne 7, 3) := by decide +kernel
theorem dX12_change_19 : decode cX12_change 19 = .ok (.iconst 2, 1) := by decide +kernel
theorem dX12_change_20 : decode cX12_change 20 = .ok (.goto 24, 3) := by decide +kernel
theorem dX12_change_23 : decode cX12_change 23 = .ok (.aload_n 0, 1) := by decide +kernel
theorem dX12_change_24 : decode cX12_change 24 = .ok (.getfield 82, 3) := by decide +kernel
theorem dX12_change_27 : decode cX12_change 27 = .ok (.ifCond .eq 16, 3) := by decide +kernel
theorem dX12_change_30 : decode cX12_change 30 = .ok (.aload_n 0, 1) := by decide +kernel
theorem dX12_change_31 : decode cX12_change 31 = .ok (.getfield 85, 3) := by decide +kernel
theorem dX12_change_34 : decode cX12_change 34 = .ok (.bipush 64, 2) := by decide +kernel
theorem dX12_change_36 : decode cX12_change 36 = .ok (.if_icmp .ne 7, 3) := by decide +kernel
theorem dX12_change_39 : decode cX12_change 39 = .ok (.iconst 1, 1) := by decide +kernel
theorem dX12_change_40 : decode cX12_change 40 = .ok (.goto 4, 3) := by decide +kernel
theorem dX12_change_43 : decode cX12_change 43 = .ok (.iconst 0, 1) := by decide +kernel
theorem dX12_change_44 : decode cX12_change 44 = .ok (.putfield 38, 3) := by decide +kernel
theorem dX12_change_47 : decode cX12_change 47 = .ok (.aload_n 0, 1) := by decide +kernel
theorem dX12_change_48 : decode cX12_change 48 = .ok (.getfield 38, 3) := by decide +kernel
theorem dX12_change_51 : decode cX12_change 51 = .ok (.ifCond .le 5, 3) := by decide +kernel
theorem dX12_change_54 : decode cX12_change 54 = .ok (.iconst 0, 1) := by decide +kernel
theorem dX12_change_55 : decode cX12_change 55 = .ok (.ireturn, 1) := by decide +kernel
theorem dX12_change_56 : decode cX12_change 56 = .ok (.aload_n 0, 1) := by decide +kernel
theorem dX12_change_57 : decode cX12_change 57 = .ok (.getfield 82, 3) := by decide +kernel
theorem dX12_change_60 : decode cX12_change 60 = .ok (.ifCond .eq 164, 3) := by decide +kernel
theorem dX12_change_63 : decode cX12_change 63 = .ok (.aload_n 0, 1) := by decide +kernel
theorem dX12_change_64 : decode cX12_change 64 = .ok (.getfield 31, 3) := by decide +kernel
theorem dX12_change_67 : decode cX12_change 67 = .ok (.aload_n 0, 1) := by decide +kernel
theorem dX12_change_68 : decode cX12_change 68 = .ok (.dup, 1) := by decide +kernel
theorem dX12_change_69 : decode cX12_change 69 = .ok (.getfield 88, 3) := by decide +kernel
theorem dX12_change_72 : decode cX12_change 72 = .ok (.dup_x1, 1) := by decide +kernel
theorem dX12_change_73 : decode cX12_change 73 = .ok (.iconst 1, 1) := by decide +kernel
theorem dX12_change_74 : decode cX12_change 74 = .ok (.iadd, 1) := by decide +kernel
theorem dX12_change_75 : decode cX12_change 75 = .ok (.putfield 88, 3) := by decide +kernel
theorem dX12_change_78 : decode cX12_change 78 = .ok (.iload_n 1, 1) := by decide +kernel
theorem dX12_change_79 : decode cX12_change 79 = .ok (.ifCond .eq 7, 3) := by decide +kernel
theorem dX12_change_82 : decode cX12_change 82 = .ok (.iconst 1, 1) := by decide +kernel
theorem dX12_change_83 : decode cX12_change 83 = .ok (.goto 4, 3) := by decide +kernel
theorem dX12_change_86 : decode cX12_change 86 = .ok (.iconst 0, 1) := by decide +kernel
theorem dX12_change_87 : decode cX12_change 87 = .ok (.i2b, 1) := by decide +kernel
theorem dX12_change_88 : decode cX12_change 88 = .ok (.bastore, 1) := by decide +kernel
theorem dX12_change_89 : decode cX12_change 89 = .ok (.aload_n 0, 1) := by decide +kernel
theorem dX12_change_90 : decode cX12_change 90 = .ok (.getfield 31, 3) := by decide +kernel
theorem dX12_change_93 : decode cX12_change 93 = .ok (.aload_n 0, 1) := by decide +kernel
theorem dX12_change_94 : decode cX12_change 94 = .ok (.dup, 1) := by decide +kernel
theorem dX12_change_95 : decode cX12_change 95 = .ok (.getfield 88, 3) := by decide +kernel
theorem dX12_change_98 : decode cX12_change 98 = .ok (.dup_x1, 1) := by decide +kernel
theorem dX12_change_99 : decode cX12_change 99 = .ok (.iconst 1, 1) := by decide +kernel
theorem dX12_change_100 : decode cX12_change 100 = .ok (.iadd, 1) := by decide +kernel
theorem dX12_change_101 : decode cX12_change 101 = .ok (.putfield 88, 3) := by decide +kernel
theorem dX12_change_104 : decode cX12_change 104 = .ok (.aload_n 0, 1) := by decide +kernel
theorem dX12_change_105 : decode cX12_change 105 = .ok (.getfield 94, 3) := by decide +kernel
theorem dX12_change_108 : decode cX12_change 108 = .ok (.i2b, 1) := by decide +kernel
theorem dX12_change_109 : decode cX12_change 109 = .ok (.bastore, 1) := by decide +kernel
theorem dX12_change_110 : decode cX12_change 110 = .ok (.aload_n 0, 1) := by decide +kernel
theorem dX12_change_111 : decode cX12_change 111 = .ok (.getfield 9, 3) := by decide +kernel
theorem dX12_change_114 : decode cX12_change 114 = .ok (.iconst 0, 1) := by decide +kernel
theorem dX12_change_115 : decode cX12_change 115 = .ok (.aload_n 0, 1) := by decide +kernel
theorem dX12_change_116 : decode cX12_change 116 = .ok (.getfield 31, 3) := by decide +kernel
theorem dX12_change_119 : decode cX12_change 119 = .ok (.aload_n 0, 1) := by decide +kernel
theorem dX12_change_120 : decode cX12_change 120 = .ok (.getfield 88, 3) := by decide +kernel
theorem dX12_change_123 : decode cX12_change 123 = .ok (.aload_n 0, 1) := by decide +kernel
theorem dX12_change_124 : decode cX12_change 124 = .ok (.getfield 94, 3) := by decide +kernel
theorem dX12_change_127 : decode cX12_change 127 = .ok (.invokestatic 52, 3) := by decide +kernel
theorem dX12_change_130 : decode cX12_change 130 = .ok (.aload_n 0, 1) := by decide +kernel
theorem dX12_change_131 : decode cX12_change 131 = .ok (.dup, 1) := by decide +kernel
theorem dX12_change_132 : decode cX12_change 132 = .ok (.getfield 88, 3) := by decide +kernel
