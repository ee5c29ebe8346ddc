theorem dX4_cut_25 : decode cX4_cut 25 = .ok (.goto (-20), 3) := by decide +kernel
theorem dX4_cut_28 : decode cX4_cut 28 = .ok (.aload_n 0, 1) := by decide +kernel
theorem dX4_cut_29 : decode cX4_cut 29 = .ok (.getfield 38, 3) := by decide +kernel
theorem dX4_cut_32 : decode cX4_cut 32 = .ok (.aload_n 0, 1) := by decide +kernel
theorem dX4_cut_33 : decode cX4_cut 33 = .ok (.getfield 35, 3) := by decide +kernel
theorem dX4_cut_36 : decode cX4_cut 36 = .ok (.isub, 1) := by decide +kernel
theorem dX4_cut_37 : decode cX4_cut 37 = .ok (.istore_n 2, 1) := by decide +kernel
theorem dX4_cut_38 : decode cX4_cut 38 = .ok (.aload_n 0, 1) := by decide +kernel
theorem dX4_cut_39 : decode cX4_cut 39 = .ok (.getfield 38, 3) := by decide +kernel
theorem dX4_cut_42 : decode cX4_cut 42 = .ok (.istore_n 3, 1) := by decide +kernel
theorem dX4_cut_43 : decode cX4_cut 43 = .ok (.iload_n 3, 1) := by decide +kernel
theorem dX4_cut_44 : decode cX4_cut 44 = .ok (.aload_n 0, 1) := by decide +kernel
theorem dX4_cut_45 : decode cX4_cut 45 = .ok (.getfield 31, 3) := by decide +kernel
theorem dX4_cut_48 : decode cX4_cut 48 = .ok (.if_icmp .ge 23, 3) := by decide +kernel
theorem dX4_cut_51 : decode cX4_cut 51 = .ok (.aload_n 0, 1) := by decide +kernel
theorem dX4_cut_52 : decode cX4_cut 52 = .ok (.getfield 11, 3) := by decide +kernel
theorem dX4_cut_55 : decode cX4_cut 55 = .ok (.iload_n 3, 1) := by decide +kernel
theorem dX4_cut_56 : decode cX4_cut 56 = .ok (.iload_n 2, 1) := by decide +kernel
theorem dX4_cut_57 : decode cX4_cut 57 = .ok (.isub, 1) := by decide +kernel
theorem dX4_cut_58 : decode cX4_cut 58 = .ok (.aload_n 0, 1) := by decide +kernel
theorem dX4_cut_59 : decode cX4_cut 59 = .ok (.getfield 11, 3) := by decide +kernel
theorem dX4_cut_62 : decode cX4_cut 62 = .ok (.iload_n 3, 1) := by decide +kernel
theorem dX4_cut_63 : decode cX4_cut 63 = .ok (.aaload, 1) := by decide +kernel
theorem dX4_cut_64 : decode cX4_cut 64 = .ok (.aastore, 1) := by decide +kernel
theorem dX4_cut_65 : decode cX4_cut 65 = .ok (.iinc 3 1, 3) := by decide +kernel
theorem dX4_cut_68 : decode cX4_cut 68 = .ok (.goto (-25), 3) := by decide +kernel
theorem dX4_cut_71 : decode cX4_cut 71 = .ok (.aload_n 0, 1) := by decide +kernel
theorem dX4_cut_72 : decode cX4_cut 72 = .ok (.dup, 1) := by decide +kernel
theorem dX4_cut_73 : decode cX4_cut 73 = .ok (.getfield 31, 3) := by decide +kernel
theorem dX4_cut_76 : decode cX4_cut 76 = .ok (.iload_n 2, 1) := by decide +kernel
theorem dX4_cut_77 : decode cX4_cut 77 = .ok (.isub, 1) := by decide +kernel
theorem dX4_cut_78 : decode cX4_cut 78 = .ok (.putfield 31, 3) := by decide +kernel
theorem dX4_cut_81 : decode cX4_cut 81 = .ok (.aload_n 0, 1) := by decide +kernel
theorem dX4_cut_82 : decode cX4_cut 82 = .ok (.aload_n 0, 1) := by decide +kernel
theorem dX4_cut_83 : decode cX4_cut 83 = .ok (.getfield 35, 3) := by decide +kernel
theorem dX4_cut_86 : decode cX4_cut 86 = .ok (.putfield 38, 3) := by decide +kernel
theorem dX4_cut_89 : decode cX4_cut 89 = .ok (.return_, 1) := by decide +kernel
theorem dX4_insert_0 : decode cX4_insert 0 = .ok (.iload_n 2, 1) := by decide +kernel
theorem dX4_insert_1 : decode cX4_insert 1 = .ok (.ifCond .lt 21, 3) := by decide +kernel
theorem dX4_insert_4 : decode cX4_insert 4 = .ok (.iload_n 2, 1) := by decide +kernel
theorem dX4_insert_5 : decode cX4_insert 5 = .ok (.aload_n 1, 1) := by decide +kernel
theorem dX4_insert_6 : decode cX4_insert 6 = .ok (.arraylength, 1) := by decide +kernel
theorem dX4_insert_7 : decode cX4_insert 7 = .ok (.if_icmp .gt 15, 3) := by decide +kernel
theorem dX4_insert_10 : decode cX4_insert 10 = .ok (.aload_n 0, 1) := by decide +kernel
theorem dX4_insert_11 : decode cX4_insert 11 = .ok (.getfield 31, 3) := by decide +kernel
theorem dX4_insert_14 : decode cX4_insert 14 = .ok (.iload_n 2, 1) := by decide +kernel
theorem dX4_insert_15 : decode cX4_insert 15 = .ok (.iadd, 1) := by decide +kernel
theorem dX4_insert_16 : decode cX4_insert 16 = .ok (.sipush 256, 3) := by decide +kernel
theorem dX4_insert_19 : decode cX4_insert 19 = .ok (.if_icmp .le 4, 3) := by decide +kernel
theorem dX4_insert_22 : decode cX4_insert 22 = .ok (.return_, 1) := by decide +kernel
theorem dX4_insert_23 : decode cX4_insert 23 = .ok (.aload_n 0, 1) := by decide +kernel
theorem dX4_insert_24 : decode cX4_insert 24 = .ok (.getfield 31, 3) := by decide +kernel
theorem dX4_insert_27 : decode cX4_insert 27 = .ok (.iconst 1, 1) := by decide +kernel
theorem dX4_insert_28 : decode cX4_insert 28 = .ok (.isub, 1) := by decide +kernel
theorem dX4_insert_29 : decode cX4_insert 29 = .ok (.istore_n 3, 1) := by decide +kernel
theorem dX4_insert_30 : decode cX4_insert 30 = .ok (.iload_n 3, 1) := by decide +kernel
theorem dX4_insert_31 : decode cX4_insert 31 = .ok (.aload_n 0, 1) := by decide +kernel
theorem dX4_insert_32 : decode cX4_insert 32 = .ok (.getfield 35, 3) := by decide +kernel
theorem dX4_insert_35 : decode cX4_insert 35 = .ok (.if_icmp .lt 23, 3) := by decide +kernel
theorem dX4_insert_38 : decode cX4_insert 38 = .ok (.aload_n 0, 1) := by decide +kernel
theorem dX4_insert_39 : decode cX4_insert 39 = .ok (.getfield 11, 3) := by decide +kernel
theorem dX4_insert_42 : decode cX4_insert 42 = .ok (.iload_n 3, 1) := by decide +kernel
theorem dX4_insert_43 : decode cX4_insert 43 = .ok (.iload_n 2, 1) := by decide +kernel
theorem dX4_insert_44 : decode cX4_insert 44 = .ok (.iadd, 1) := by decide +kernel
theorem dX4_insert_45 : decode cX4_insert 45 = .ok (.aload_n 0, 1) := by decide +kernel
theorem dX4_insert_46 : decode cX4_insert 46 = .ok (.getfield 11, 3) := by decide +kernel
theorem dX4_insert_49 : decode cX4_insert 49 = .ok (.iload_n 3, 1) := by decide +kernel
theorem dX4_insert_50 : decode cX4_insert 50 = .ok (.aaload, 1) := by decide +kernel
theorem dX4_insert_51 : decode cX4_insert 51 = .ok (.aastore, 1) := by decide +kernel
theorem dX4_insert_52 : decode cX4_insert 52 = .ok (.iinc 3 (-1), 3) := by decide +kernel
theorem dX4_insert_55 : decode cX4_insert 55 = .ok (.goto (-25), 3) := by decide +kernel
theorem dX4_insert_58 : decode cX4_insert 58 = .ok (.iconst 0, 1) := by decide +kernel
theorem dX4_insert_59 : decode cX4_insert 59 = .ok (.istore_n 3, 1) := by decide +kernel
theorem dX4_insert_60 : decode cX4_insert 60 = .ok (.iload_n 3, 1) := by decide +kernel
theorem dX4_insert_61 : decode cX4_insert 61 = .ok (.iload_n 2, 1) := by decide +kernel
theorem dX4_insert_62 : decode cX4_insert 62 = .ok (.if_icmp .ge 23, 3) := by decide +kernel
theorem dX4_insert_65 : decode cX4_insert 65 = .ok (.aload_n 0, 1) := by decide +kernel
theorem dX4_insert_66 : decode cX4_insert 66 = .ok (.getfield 11, 3) := by decide +kernel
theorem dX4_insert_69 : decode cX4_insert 69 = .ok (.aload_n 0, 1) := by decide +kernel
theorem dX4_insert_70 : decode cX4_insert 70 = .ok (.getfield 35, 3) := by decide +kernel
theorem dX4_insert_73 : decode cX4_insert 73 = .ok (.iload_n 3, 1) := by decide +kernel
theorem dX4_insert_74 : decode cX4_insert 74 = .ok (.iadd, 1) := by decide +kernel
theorem dX4_insert_75 : decode cX4_insert 75 = .ok (.aload_n 1, 1) := by decide +kernel
theorem dX4_insert_76 : decode cX4_insert 76 = .ok (.iload_n 3, 1) := by decide +kernel
theorem dX4_insert_77 : decode cX4_insert 77 = .ok (.aaload, 1) := by decide +kernel
theorem dX4_insert_78 : decode cX4_insert 78 = .ok (.aastore, 1) := by decide +kernel
theorem dX4_insert_79 : decode cX4_insert 79 = .ok (.iinc 3 1, 3) := by decide +kernel
theorem dX4_insert_82 : decode cX4_insert 82 = .ok (.goto (-22), 3) := by decide +kernel
theorem dX4_insert_85 : decode cX4_insert 85 = .ok (.aload_n 0, 1) := by decide +kernel
theorem dX4_insert_86 : decode cX4_insert 86 = .ok (.dup, 1) := by decide +kernel
theorem dX4_insert_87 : decode cX4_insert 87 = .ok (.getfield 31, 3) := by decide +kernel
theorem dX4_insert_90 : decode cX4_insert 90 = .ok (.iload_n 2, 1) := by decide +kernel
theorem dX4_insert_91 : decode cX4_insert 91 = .ok (.iadd, 1) := by decide +kernel
theorem dX4_insert_92 : decode cX4_insert 92 = .ok (.putfield 31, 3) := by decide +kernel
theorem dX4_insert_95 : decode cX4_insert 95 = .ok (.return_, 1) := by decide +kernel
theorem dX4_tableFrom_0 : decode cX4_tableFrom 0 = .ok (.iconst 0, 1) := by decide +kernel
theorem dX4_tableFrom_1 : decode cX4_tableFrom 1 = .ok (.istore_n 3, 1) := by decide +kernel
theorem dX4_tableFrom_2 : decode cX4_tableFrom 2 = .ok (.aload_n 0, 1) := by decide +kernel
theorem dX4_tableFrom_3 : decode cX4_tableFrom 3 = .ok (.getfield 31, 3) := by decide +kernel
theorem dX4_tableFrom_6 : decode cX4_tableFrom 6 = .ok (.istore 4, 2) := by decide +kernel
theorem dX4_tableFrom_8 : decode cX4_tableFrom 8 = .ok (.iconst 0, 1) := by decide +kernel
theorem dX4_tableFrom_9 : decode cX4_tableFrom 9 = .ok (.istore 5, 2) := by decide +kernel
theorem dX4_tableFrom_11 : decode cX4_tableFrom 11 = .ok (.iload 5, 2) := by decide +kernel
theorem dX4_tableFrom_13 : decode cX4_tableFrom 13 = .ok (.sipush 256, 3) := by decide +kernel
theorem dX4_tableFrom_16 : decode cX4_tableFrom 16 = .ok (.if_icmp .ge 56, 3) := by decide +kernel
theorem dX4_tableFrom_19 : decode cX4_tableFrom 19 = .ok (.iload_n 3, 1) := by decide +kernel
theorem dX4_tableFrom_20 : decode cX4_tableFrom 20 = .ok (.iload 4, 2) := by decide +kernel
theorem dX4_tableFrom_22 : decode cX4_tableFrom 22 = .ok (.if_icmp .ge 50, 3) := by decide +kernel
theorem dX4_tableFrom_25 : decode cX4_tableFrom 25 = .ok (.iload_n 3, 1) := by decide +kernel
theorem dX4_tableFrom_26 : decode cX4_tableFrom 26 = .ok (.iload 4, 2) := by decide +kernel
theorem dX4_tableFrom_28 : decode cX4_tableFrom 28 = .ok (.iadd, 1) := by decide +kernel
theorem dX4_tableFrom_29 : decode cX4_tableFrom 29 = .ok (.iconst 2, 1) := by decide +kernel
theorem dX4_tableFrom_30 : decode cX4_tableFrom 30 = .ok (.idiv, 1) := by decide +kernel
theorem dX4_tableFrom_31 : decode cX4_tableFrom 31 = .ok (.istore 6, 2) := by decide +kernel
theorem dX4_tableFrom_33 : decode cX4_tableFrom 33 = .ok (.aload_n 0, 1) := by decide +kernel
theorem dX4_tableFrom_34 : decode cX4_tableFrom 34 = .ok (.getfield 17, 3) := by decide +kernel
theorem dX4_tableFrom_37 : decode cX4_tableFrom 37 = .ok (.aload_n 0, 1) := by decide +kernel
theorem dX4_tableFrom_38 : decode cX4_tableFrom 38 = .ok (.iload 6, 2) := by decide +kernel
theorem dX4_tableFrom_40 : decode cX4_tableFrom 40 = .ok (.invokevirtual 41, 3) := by decide +kernel
theorem dX4_tableFrom_43 : decode cX4_tableFrom 43 = .ok (.getfield 50, 3) := by decide +kernel
theorem dX4_tableFrom_46 : decode cX4_tableFrom 46 = .ok (.aload_n 1, 1) := by decide +kernel
theorem dX4_tableFrom_47 : decode cX4_tableFrom 47 = .ok (.iload_n 2, 1) := by decide +kernel
theorem dX4_tableFrom_48 : decode cX4_tableFrom 48 = .ok (.invokevirtual 89, 3) := by decide +kernel
theorem dX4_tableFrom_51 : decode cX4_tableFrom 51 = .ok (.ifCond .eq 11, 3) := by decide +kernel
theorem dX4_tableFrom_54 : decode cX4_tableFrom 54 = .ok (.iload 6, 2) := by decide +kernel
theorem dX4_tableFrom_56 : decode cX4_tableFrom 56 = .ok (.iconst 1, 1) := by decide +kernel
theorem dX4_tableFrom_57 : decode cX4_tableFrom 57 = .ok (.iadd, 1) := by decide +kernel
theorem dX4_tableFrom_58 : decode cX4_tableFrom 58 = .ok (.istore_n 3, 1) := by decide +kernel
theorem dX4_tableFrom_59 : decode cX4_tableFrom 59 = .ok (.goto 7, 3) := by decide +kernel
theorem dX4_tableFrom_62 : decode cX4_tableFrom 62 = .ok (.iload 6, 2) := by decide +kernel
theorem dX4_tableFrom_64 : decode cX4_tableFrom 64 = .ok (.istore 4, 2) := by decide +kernel
theorem dX4_tableFrom_66 : decode cX4_tableFrom 66 = .ok (.iinc 5 1, 3) := by decide +kernel
theorem dX4_tableFrom_69 : decode cX4_tableFrom 69 = .ok (.goto (-58), 3) := by decide +kernel
theorem dX4_tableFrom_72 : decode cX4_tableFrom 72 = .ok (.iload_n 3, 1) := by decide +kernel
theorem dX4_tableFrom_73 : decode cX4_tableFrom 73 = .ok (.ireturn, 1) := by decide +kernel
theorem dX4_find_0 : decode cX4_find 0 = .ok (.aload_n 0, 1) := by decide +kernel
theorem dX4_find_1 : decode cX4_find 1 = .ok (.aload_n 0, 1) := by decide +kernel
theorem dX4_find_2 : decode cX4_find 2 = .ok (.aload_n 1, 1) := by decide +kernel
theorem dX4_find_3 : decode cX4_find 3 = .ok (.ldc 93, 2) := by decide +kernel
theorem dX4_find_5 : decode cX4_find 5 = .ok (.invokevirtual 94, 3) := by decide +kernel
theorem dX4_find_8 : decode cX4_find 8 = .ok (.invokevirtual 41, 3) := by decide +kernel
theorem dX4_find_11 : decode cX4_find 11 = .ok (.astore_n 3, 1) := by decide +kernel
theorem dX4_find_12 : decode cX4_find 12 = .ok (.aload_n 3, 1) := by decide +kernel
theorem dX4_find_13 : decode cX4_find 13 = .ok (.aload_n 1, 1) := by decide +kernel
theorem dX4_find_14 : decode cX4_find 14 = .ok (.getfield 98, 3) := by decide +kernel
theorem dX4_find_17 : decode cX4_find 17 = .ok (.iconst 0, 1) := by decide +kernel
theorem dX4_find_18 : decode cX4_find 18 = .ok (.aload_n 1, 1) := by decide +kernel
theorem dX4_find_19 : decode cX4_find 19 = .ok (.getfield 104, 3) := by decide +kernel
theorem dX4_find_22 : decode cX4_find 22 = .ok (.invokevirtual 107, 3) := by decide +kernel
theorem dX4_find_25 : decode cX4_find 25 = .ok (.ifCond .ne 5, 3) := by decide +kernel
theorem dX4_find_28 : decode cX4_find 28 = .ok (.iconst (-1), 1) := by decide +kernel
theorem dX4_find_29 : decode cX4_find 29 = .ok (.ireturn, 1) := by decide +kernel
theorem dX4_find_30 : decode cX4_find 30 = .ok (.aload_n 3, 1) := by decide +kernel
theorem dX4_find_31 : decode cX4_find 31 = .ok (.aload_n 1, 1) := by decide +kernel
theorem dX4_find_32 : decode cX4_find 32 = .ok (.iload_n 2, 1) := by decide +kernel
theorem dX4_find_33 : decode cX4_find 33 = .ok (.invokevirtual 111, 3) := by decide +kernel
theorem dX4_find_36 : decode cX4_find 36 = .ok (.istore 4, 2) := by decide +kernel
theorem dX4_find_38 : decode cX4_find 38 = .ok (.iload 4, 2) := by decide +kernel
theorem dX4_find_40 : decode cX4_find 40 = .ok (.iconst (-1), 1) := by decide +kernel
theorem dX4_find_41 : decode cX4_find 41 = .ok (.if_icmp .ne 11, 3) := by decide +kernel
theorem dX4_find_44 : decode cX4_find 44 = .ok (.aload_n 3, 1) := by decide +kernel
theorem dX4_find_45 : decode cX4_find 45 = .ok (.iconst 0, 1) := by decide +kernel
theorem dX4_find_46 : decode cX4_find 46 = .ok (.invokevirtual 46, 3) := by decide +kernel
theorem dX4_find_49 : decode cX4_find 49 = .ok (.goto 9, 3) := by decide +kernel
theorem dX4_find_52 : decode cX4_find 52 = .ok (.aload_n 3, 1) := by decide +kernel
theorem dX4_find_53 : decode cX4_find 53 = .ok (.iload 4, 2) := by decide +kernel
theorem dX4_find_55 : decode cX4_find 55 = .ok (.invokevirtual 80, 3) := by decide +kernel
theorem dX4_find_58 : decode cX4_find 58 = .ok (.istore 5, 2) := by decide +kernel
theorem dX4_find_60 : decode cX4_find 60 = .ok (.aload_n 0, 1) := by decide +kernel
theorem dX4_find_61 : decode cX4_find 61 = .ok (.getfield 17, 3) := by decide +kernel
theorem dX4_find_64 : decode cX4_find 64 = .ok (.iload 5, 2) := by decide +kernel
theorem dX4_find_66 : decode cX4_find 66 = .ok (.aload_n 1, 1) := by decide +kernel
theorem dX4_find_67 : decode cX4_find 67 = .ok (.invokevirtual 114, 3) := by decide +kernel
theorem dX4_find_70 : decode cX4_find 70 = .ok (.ifCond .eq 8, 3) := by decide +kernel
theorem dX4_find_73 : decode cX4_find 73 = .ok (.iload 5, 2) := by decide +kernel
theorem dX4_find_75 : decode cX4_find 75 = .ok (.goto 4, 3) := by decide +kernel
theorem dX4_find_78 : decode cX4_find 78 = .ok (.iconst (-1), 1) := by decide +kernel
theorem dX4_find_79 : decode cX4_find 79 = .ok (.ireturn, 1) := by decide +kernel
theorem dX4_from_0 : decode cX4_from 0 = .ok (.aload_n 0, 1) := by decide +kernel
theorem dX4_from_1 : decode cX4_from 1 = .ok (.aload_n 0, 1) := by decide +kernel
theorem dX4_from_2 : decode cX4_from 2 = .ok (.aload_n 1, 1) := by decide +kernel
theorem dX4_from_3 : decode cX4_from 3 = .ok (.iload_n 2, 1) := by decide +kernel
theorem dX4_from_4 : decode cX4_from 4 = .ok (.invokevirtual 94, 3) := by decide +kernel
theorem dX4_from_7 : decode cX4_from 7 = .ok (.invokevirtual 41, 3) := by decide +kernel
theorem dX4_from_10 : decode cX4_from 10 = .ok (.astore_n 3, 1) := by decide +kernel
theorem dX4_from_11 : decode cX4_from 11 = .ok (.aload_n 3, 1) := by decide +kernel
theorem dX4_from_12 : decode cX4_from 12 = .ok (.aload_n 1, 1) := by decide +kernel
theorem dX4_from_13 : decode cX4_from 13 = .ok (.iload_n 2, 1) := by decide +kernel
theorem dX4_from_14 : decode cX4_from 14 = .ok (.invokevirtual 111, 3) := by decide +kernel
theorem dX4_from_17 : decode cX4_from 17 = .ok (.istore 4, 2) := by decide +kernel
theorem dX4_from_19 : decode cX4_from 19 = .ok (.iload 4, 2) := by decide +kernel
theorem dX4_from_21 : decode cX4_from 21 = .ok (.iconst (-1), 1) := by decide +kernel
theorem dX4_from_22 : decode cX4_from 22 = .ok (.if_icmp .ne 11, 3) := by decide +kernel
theorem dX4_from_25 : decode cX4_from 25 = .ok (.aload_n 3, 1) := by decide +kernel
theorem dX4_from_26 : decode cX4_from 26 = .ok (.iconst 0, 1) := by decide +kernel
theorem dX4_from_27 : decode cX4_from 27 = .ok (.invokevirtual 46, 3) := by decide +kernel
theorem dX4_from_30 : decode cX4_from 30 = .ok (.goto 9, 3) := by decide +kernel
theorem dX4_from_33 : decode cX4_from 33 = .ok (.aload_n 3, 1) := by decide +kernel
theorem dX4_from_34 : decode cX4_from 34 = .ok (.iload 4, 2) := by decide +kernel
theorem dX4_from_36 : decode cX4_from 36 = .ok (.invokevirtual 80, 3) := by decide +kernel
theorem dX4_from_39 : decode cX4_from 39 = .ok (.ireturn, 1) := by decide +kernel
theorem dX4_lastBefore_0 : decode cX4_lastBefore 0 = .ok (.aload_n 0, 1) := by decide +kernel
theorem dX4_lastBefore_1 : decode cX4_lastBefore 1 = .ok (.aload_n 1, 1) := by decide +kernel
theorem dX4_lastBefore_2 : decode cX4_lastBefore 2 = .ok (.ldc 93, 2) := by decide +kernel
theorem dX4_lastBefore_4 : decode cX4_lastBefore 4 = .ok (.invokevirtual 94, 3) := by decide +kernel
theorem dX4_lastBefore_7 : decode cX4_lastBefore 7 = .ok (.istore_n 2, 1) := by decide +kernel
theorem dX4_lastBefore_8 : decode cX4_lastBefore 8 = .ok (.aload_n 0, 1) := by decide +kernel
theorem dX4_lastBefore_9 : decode cX4_lastBefore 9 = .ok (.iload_n 2, 1) := by decide +kernel
theorem dX4_lastBefore_10 : decode cX4_lastBefore 10 = .ok (.invokevirtual 41, 3) := by decide +kernel
theorem dX4_lastBefore_13 : decode cX4_lastBefore 13 = .ok (.aload_n 1, 1) := by decide +kernel
theorem dX4_lastBefore_14 : decode cX4_lastBefore 14 = .ok (.ldc 93, 2) := by decide +kernel
theorem dX4_lastBefore_16 : decode cX4_lastBefore 16 = .ok (.invokevirtual 111, 3) := by decide +kernel
theorem dX4_lastBefore_19 : decode cX4_lastBefore 19 = .ok (.istore_n 3, 1) := by decide +kernel
theorem dX4_lastBefore_20 : decode cX4_lastBefore 20 = .ok (.iload_n 3, 1) := by decide +kernel
theorem dX4_lastBefore_21 : decode cX4_lastBefore 21 = .ok (.iconst (-1), 1) := by decide +kernel
theorem dX4_lastBefore_22 : decode cX4_lastBefore 22 = .ok (.if_icmp .ne 16, 3) := by decide +kernel
theorem dX4_lastBefore_25 : decode cX4_lastBefore 25 = .ok (.aload_n 0, 1) := by decide +kernel
theorem dX4_lastBefore_26 : decode cX4_lastBefore 26 = .ok (.iload_n 2, 1) := by decide +kernel
theorem dX4_lastBefore_27 : decode cX4_lastBefore 27 = .ok (.iconst 1, 1) := by decide +kernel
theorem dX4_lastBefore_28 : decode cX4_lastBefore 28 = .ok (.isub, 1) := by decide +kernel
theorem dX4_lastBefore_29 : decode cX4_lastBefore 29 = .ok (.invokevirtual 41, 3) := by decide +kernel
theorem dX4_lastBefore_32 : decode cX4_lastBefore 32 = .ok (.getfield 50, 3) := by decide +kernel
theorem dX4_lastBefore_35 : decode cX4_lastBefore 35 = .ok (.goto 4, 3) := by decide +kernel
theorem dX4_lastBefore_38 : decode cX4_lastBefore 38 = .ok (.iload_n 3, 1) := by decide +kernel
theorem dX4_lastBefore_39 : decode cX4_lastBefore 39 = .ok (.ireturn, 1) := by decide +kernel
theorem dX4_overlaps_0 : decode cX4_overlaps 0 = .ok (.iconst 0, 1) := by decide +kernel
theorem dX4_overlaps_1 : decode cX4_overlaps 1 = .ok (.istore_n 1, 1) := by decide +kernel
theorem dX4_overlaps_2 : decode cX4_overlaps 2 = .ok (.iconst 1, 1) := by decide +kernel
theorem dX4_overlaps_3 : decode cX4_overlaps 3 = .ok (.istore_n 2, 1) := by decide +kernel
theorem dX4_overlaps_4 : decode cX4_overlaps 4 = .ok (.iload_n 2, 1) := by decide +kernel
theorem dX4_overlaps_5 : decode cX4_overlaps 5 = .ok (.aload_n 0, 1) := by decide +kernel
theorem dX4_overlaps_6 : decode cX4_overlaps 6 = .ok (.getfield 31, 3) := by decide +kernel
theorem dX4_overlaps_9 : decode cX4_overlaps 9 = .ok (.if_icmp .ge 41, 3) := by decide +kernel
theorem dX4_overlaps_12 : decode cX4_overlaps 12 = .ok (.aload_n 0, 1) := by decide +kernel
theorem dX4_overlaps_13 : decode cX4_overlaps 13 = .ok (.getfield 17, 3) := by decide +kernel
theorem dX4_overlaps_16 : decode cX4_overlaps 16 = .ok (.aload_n 0, 1) := by decide +kernel
theorem dX4_overlaps_17 : decode cX4_overlaps 17 = .ok (.iload_n 2, 1) := by decide +kernel
theorem dX4_overlaps_18 : decode cX4_overlaps 18 = .ok (.iconst 1, 1) := by decide +kernel
theorem dX4_overlaps_19 : decode cX4_overlaps 19 = .ok (.isub, 1) := by decide +kernel
theorem dX4_overlaps_20 : decode cX4_overlaps 20 = .ok (.invokevirtual 41, 3) := by decide +kernel
theorem dX4_overlaps_23 : decode cX4_overlaps 23 = .ok (.getfield 50, 3) := by decide +kernel
theorem dX4_overlaps_26 : decode cX4_overlaps 26 = .ok (.aload_n 0, 1) := by decide +kernel
theorem dX4_overlaps_27 : decode cX4_overlaps 27 = .ok (.iload_n 2, 1) := by decide +kernel
theorem dX4_overlaps_28 : decode cX4_overlaps 28 = .ok (.invokevirtual 41, 3) := by decide +kernel
theorem dX4_overlaps_31 : decode cX4_overlaps 31 = .ok (.iconst 0, 1) := by decide +kernel
theorem dX4_overlaps_32 : decode cX4_overlaps 32 = .ok (.invokevirtual 46, 3) := by decide +kernel
theorem dX4_overlaps_35 : decode cX4_overlaps 35 = .ok (.invokevirtual 65, 3) := by decide +kernel
theorem dX4_overlaps_38 : decode cX4_overlaps 38 = .ok (.ifCond .lt 6, 3) := by decide +kernel
theorem dX4_overlaps_41 : decode cX4_overlaps 41 = .ok (.iinc 1 1, 3) := by decide +kernel
theorem dX4_overlaps_44 : decode cX4_overlaps 44 = .ok (.iinc 2 1, 3) := by decide +kernel
theorem dX4_overlaps_47 : decode cX4_overlaps 47 = .ok (.goto (-43), 3) := by decide +kernel
theorem dX4_overlaps_50 : decode cX4_overlaps 50 = .ok (.iload_n 1, 1) := by decide +kernel
theorem dX4_overlaps_51 : decode cX4_overlaps 51 = .ok (.ireturn, 1) := by decide +kernel
theorem dX4_faults_0 : decode cX4_faults 0 = .ok (.iconst 0, 1) := by decide +kernel
theorem dX4_faults_1 : decode cX4_faults 1 = .ok (.istore_n 1, 1) := by decide +kernel
theorem dX4_faults_2 : decode cX4_faults 2 = .ok (.iconst 0, 1) := by decide +kernel
theorem dX4_faults_3 : decode cX4_faults 3 = .ok (.istore_n 2, 1) := by decide +kernel
theorem dX4_faults_4 : decode cX4_faults 4 = .ok (.iload_n 2, 1) := by decide +kernel
theorem dX4_faults_5 : decode cX4_faults 5 = .ok (.aload_n 0, 1) := by decide +kernel
theorem dX4_faults_6 : decode cX4_faults 6 = .ok (.getfield 31, 3) := by decide +kernel
theorem dX4_faults_9 : decode cX4_faults 9 = .ok (.if_icmp .ge 20, 3) := by decide +kernel
theorem dX4_faults_12 : decode cX4_faults 12 = .ok (.iload_n 1, 1) := by decide +kernel
theorem dX4_faults_13 : decode cX4_faults 13 = .ok (.aload_n 0, 1) := by decide +kernel
theorem dX4_faults_14 : decode cX4_faults 14 = .ok (.iload_n 2, 1) := by decide +kernel
theorem dX4_faults_15 : decode cX4_faults 15 = .ok (.invokevirtual 41, 3) := by decide +kernel
theorem dX4_faults_18 : decode cX4_faults 18 = .ok (.invokevirtual 118, 3) := by decide +kernel
theorem dX4_faults_21 : decode cX4_faults 21 = .ok (.iadd, 1) := by decide +kernel
theorem dX4_faults_22 : decode cX4_faults 22 = .ok (.istore_n 1, 1) := by decide +kernel
theorem dX4_faults_23 : decode cX4_faults 23 = .ok (.iinc 2 1, 3) := by decide +kernel
theorem dX4_faults_26 : decode cX4_faults 26 = .ok (.goto (-22), 3) := by decide +kernel
theorem dX4_faults_29 : decode cX4_faults 29 = .ok (.iload_n 1, 1) := by decide +kernel
theorem dX4_faults_30 : decode cX4_faults 30 = .ok (.ireturn, 1) := by decide +kernel
theorem dX5_init_0 : decode cX5_init 0 = .ok (.aload_n 0, 1) := by decide +kernel
theorem dX5_init_1 : decode cX5_init 1 = .ok (.invokespecial 3, 3) := by decide +kernel
theorem dX5_init_4 : decode cX5_init 4 = .ok (.aload_n 0, 1) := by decide +kernel
theorem dX5_init_5 : decode cX5_init 5 = .ok (.sipush 2048, 3) := by decide +kernel
theorem dX5_init_8 : decode cX5_init 8 = .ok (.newarray .int, 2) := by decide +kernel
theorem dX5_init_10 : decode cX5_init 10 = .ok (.putfield 9, 3) := by decide +kernel
theorem dX5_init_13 : decode cX5_init 13 = .ok (.aload_n 0, 1) := by decide +kernel
theorem dX5_init_14 : decode cX5_init 14 = .ok (.aload_n 1, 1) := by decide +kernel
theorem dX5_init_15 : decode cX5_init 15 = .ok (.putfield 15, 3) := by decide +kernel
theorem dX5_init_18 : decode cX5_init 18 = .ok (.return_, 1) := by decide +kernel
theorem dX5_other_0 : decode cX5_other 0 = .ok (.iconst 1, 1) := by decide +kernel
theorem dX5_other_1 : decode cX5_other 1 = .ok (.aload_n 0, 1) := by decide +kernel
theorem dX5_other_2 : decode cX5_other 2 = .ok (.getfield 19, 3) := by decide +kernel
theorem dX5_other_5 : decode cX5_other 5 = .ok (.isub, 1) := by decide +kernel
theorem dX5_other_6 : decode cX5_other 6 = .ok (.ireturn, 1) := by decide +kernel
theorem dX5_hasRoom_0 : decode cX5_hasRoom 0 = .ok (.aload_n 0, 1) := by decide +kernel
theorem dX5_hasRoom_1 : decode cX5_hasRoom 1 = .ok (.getfield 23, 3) := by decide +kernel
theorem dX5_hasRoom_4 : decode cX5_hasRoom 4 = .ok (.aload_n 1, 1) := by decide +kernel
theorem dX5_hasRoom_5 : decode cX5_hasRoom 5 = .ok (.getfield 26, 3) := by decide +kernel
theorem dX5_hasRoom_8 : decode cX5_hasRoom 8 = .ok (.iadd, 1) := by decide +kernel
theorem dX5_hasRoom_9 : decode cX5_hasRoom 9 = .ok (.sipush 18432, 3) := by decide +kernel
theorem dX5_hasRoom_12 : decode cX5_hasRoom 12 = .ok (.if_icmp .ge 22, 3) := by decide +kernel
theorem dX5_hasRoom_15 : decode cX5_hasRoom 15 = .ok (.aload_n 0, 1) := by decide +kernel
theorem dX5_hasRoom_16 : decode cX5_hasRoom 16 = .ok (.getfield 31, 3) := by decide +kernel
theorem dX5_hasRoom_19 : decode cX5_hasRoom 19 = .ok (.aload_n 1, 1) := by decide +kernel
theorem dX5_hasRoom_20 : decode cX5_hasRoom 20 = .ok (.getfield 34, 3) := by decide +kernel
theorem dX5_hasRoom_23 : decode cX5_hasRoom 23 = .ok (.iadd, 1) := by decide +kernel
theorem dX5_hasRoom_24 : decode cX5_hasRoom 24 = .ok (.sipush 2048, 3) := by decide +kernel
theorem dX5_hasRoom_27 : decode cX5_hasRoom 27 = .ok (.if_icmp .gt 7, 3) := by decide +kernel
theorem dX5_hasRoom_30 : decode cX5_hasRoom 30 = .ok (.iconst 1, 1) := by decide +kernel
theorem dX5_hasRoom_31 : decode cX5_hasRoom 31 = .ok (.goto 4, 3) := by decide +kernel
theorem dX5_hasRoom_34 : decode cX5_hasRoom 34 = .ok (.iconst 0, 1) := by decide +kernel
theorem dX5_hasRoom_35 : decode cX5_hasRoom 35 = .ok (.ireturn, 1) := by decide +kernel
theorem dX5_append_0 : decode cX5_append 0 = .ok (.sipush 4096, 3) := by decide +kernel
theorem dX5_append_3 : decode cX5_append 3 = .ok (.aload_n 0, 1) := by decide +kernel
theorem dX5_append_4 : decode cX5_append 4 = .ok (.getfield 19, 3) := by decide +kernel
theorem dX5_append_7 : decode cX5_append 7 = .ok (.sipush 18432, 3) := by decide +kernel
theorem dX5_append_10 : decode cX5_append 10 = .ok (.imul, 1) := by decide +kernel
theorem dX5_append_11 : decode cX5_append 11 = .ok (.iadd, 1) := by decide +kernel
theorem dX5_append_12 : decode cX5_append 12 = .ok (.aload_n 0, 1) := by decide +kernel
theorem dX5_append_13 : decode cX5_append 13 = .ok (.getfield 23, 3) := by decide +kernel
theorem dX5_append_16 : decode cX5_append 16 = .ok (.iadd, 1) := by decide +kernel
theorem dX5_append_17 : decode cX5_append 17 = .ok (.istore_n 2, 1) := by decide +kernel
theorem dX5_append_18 : decode cX5_append 18 = .ok (.iconst 0, 1) := by decide +kernel
theorem dX5_append_19 : decode cX5_append 19 = .ok (.istore_n 3, 1) := by decide +kernel
theorem dX5_append_20 : decode cX5_append 20 = .ok (.iconst 0, 1) := by decide +kernel
theorem dX5_append_21 : decode cX5_append 21 = .ok (.istore 4, 2) := by decide +kernel
theorem dX5_append_23 : decode cX5_append 23 = .ok (.iload 4, 2) := by decide +kernel
theorem dX5_append_25 : decode cX5_append 25 = .ok (.bipush 36, 2) := by decide +kernel
theorem dX5_append_27 : decode cX5_append 27 = .ok (.if_icmp .ge 80, 3) := by decide +kernel
theorem dX5_append_30 : decode cX5_append 30 = .ok (.iload_n 3, 1) := by decide +kernel
theorem dX5_append_31 : decode cX5_append 31 = .ok (.aload_n 1, 1) := by decide +kernel
theorem dX5_append_32 : decode cX5_append 32 = .ok (.getfield 26, 3) := by decide +kernel
theorem dX5_append_35 : decode cX5_append 35 = .ok (.if_icmp .ge 72, 3) := by decide +kernel
theorem dX5_append_38 : decode cX5_append 38 = .ok (.iload_n 2, 1) := by decide +kernel
theorem dX5_append_39 : decode cX5_append 39 = .ok (.iload_n 3, 1) := by decide +kernel
theorem dX5_append_40 : decode cX5_append 40 = .ok (.iadd, 1) := by decide +kernel
theorem dX5_append_41 : decode cX5_append 41 = .ok (.istore 5, 2) := by decide +kernel
theorem dX5_append_43 : decode cX5_append 43 = .ok (.aload_n 1, 1) := by decide +kernel
theorem dX5_append_44 : decode cX5_append 44 = .ok (.getfield 26, 3) := by decide +kernel
theorem dX5_append_47 : decode cX5_append 47 = .ok (.iload_n 3, 1) := by decide +kernel
theorem dX5_append_48 : decode cX5_append 48 = .ok (.isub, 1) := by decide +kernel
theorem dX5_append_49 : decode cX5_append 49 = .ok (.sipush 512, 3) := by decide +kernel
theorem dX5_append_52 : decode cX5_append 52 = .ok (.iload 5, 2) := by decide +kernel
theorem dX5_append_54 : decode cX5_append 54 = .ok (.sipush 512, 3) := by decide +kernel
theorem dX5_append_57 : decode cX5_append 57 = .ok (.irem, 1) := by decide +kernel
theorem dX5_append_58 : decode cX5_append 58 = .ok (.isub, 1) := by decide +kernel
theorem dX5_append_59 : decode cX5_append 59 = .ok (.invokestatic 37, 3) := by decide +kernel
theorem dX5_append_62 : decode cX5_append 62 = .ok (.istore 6, 2) := by decide +kernel
theorem dX5_append_64 : decode cX5_append 64 = .ok (.aload_n 0, 1) := by decide +kernel
theorem dX5_append_65 : decode cX5_append 65 = .ok (.getfield 15, 3) := by decide +kernel
theorem dX5_append_68 : decode cX5_append 68 = .ok (.iload 5, 2) := by decide +kernel
theorem dX5_append_70 : decode cX5_append 70 = .ok (.aload_n 1, 1) := by decide +kernel
theorem dX5_append_71 : decode cX5_append 71 = .ok (.getfield 43, 3) := by decide +kernel
theorem dX5_append_74 : decode cX5_append 74 = .ok (.iload_n 3, 1) := by decide +kernel
theorem dX5_append_75 : decode cX5_append 75 = .ok (.iload 6, 2) := by decide +kernel
theorem dX5_append_77 : decode cX5_append 77 = .ok (.iload_n 3, 1) := by decide +kernel
theorem dX5_append_78 : decode cX5_append 78 = .ok (.iload 6, 2) := by decide +kernel
theorem dX5_append_80 : decode cX5_append 80 = .ok (.iadd, 1) := by decide +kernel
theorem dX5_append_81 : decode cX5_append 81 = .ok (.aload_n 1, 1) := by decide +kernel
theorem dX5_append_82 : decode cX5_append 82 = .ok (.getfield 26, 3) := by decide +kernel
theorem dX5_append_85 : decode cX5_append 85 = .ok (.if_icmp .ne 7, 3) := by decide +kernel
theorem dX5_append_88 : decode cX5_append 88 = .ok (.iconst 1, 1) := by decide +kernel
theorem dX5_append_89 : decode cX5_append 89 = .ok (.goto 4, 3) := by decide +kernel
theorem dX5_append_92 : decode cX5_append 92 = .ok (.iconst 0, 1) := by decide +kernel
theorem dX5_append_93 : decode cX5_append 93 = .ok (.invokevirtual 47, 3) := by decide +kernel
theorem dX5_append_96 : decode cX5_append 96 = .ok (.iload_n 3, 1) := by decide +kernel
theorem dX5_append_97 : decode cX5_append 97 = .ok (.iload 6, 2) := by decide +kernel
theorem dX5_append_99 : decode cX5_append 99 = .ok (.iadd, 1) := by decide +kernel
theorem dX5_append_100 : decode cX5_append 100 = .ok (.istore_n 3, 1) := by decide +kernel
theorem dX5_append_101 : decode cX5_append 101 = .ok (.iinc 4 1, 3) := by decide +kernel
theorem dX5_append_104 : decode cX5_append 104 = .ok (.goto (-81), 3) := by decide +kernel
theorem dX5_append_107 : decode cX5_append 107 = .ok (.aload_n 0, 1) := by decide +kernel
theorem dX5_append_108 : decode cX5_append 108 = .ok (.dup, 1) := by decide +kernel
theorem dX5_append_109 : decode cX5_append 109 = .ok (.getfield 23, 3) := by decide +kernel
theorem dX5_append_112 : decode cX5_append 112 = .ok (.aload_n 1, 1) := by decide +kernel
theorem dX5_append_113 : decode cX5_append 113 = .ok (.getfield 26, 3) := by decide +kernel
theorem dX5_append_116 : decode cX5_append 116 = .ok (.iadd, 1) := by decide +kernel
theorem dX5_append_117 : decode cX5_append 117 = .ok (.putfield 23, 3) := by decide +kernel
theorem dX5_append_120 : decode cX5_append 120 = .ok (.aload_n 0, 1) := by decide +kernel
theorem dX5_append_121 : decode cX5_append 121 = .ok (.aload_n 0, 1) := by decide +kernel
theorem dX5_append_122 : decode cX5_append 122 = .ok (.getfield 53, 3) := by decide +kernel
theorem dX5_append_125 : decode cX5_append 125 = .ok (.aload_n 0, 1) := by decide +kernel
theorem dX5_append_126 : decode cX5_append 126 = .ok (.getfield 23, 3) := by decide +kernel
theorem dX5_append_129 : decode cX5_append 129 = .ok (.sipush 512, 3) := by decide +kernel
theorem dX5_append_132 : decode cX5_append 132 = .ok (.iadd, 1) := by decide +kernel
theorem dX5_append_133 : decode cX5_append 133 = .ok (.iconst 1, 1) := by decide +kernel
theorem dX5_append_134 : decode cX5_append 134 = .ok (.isub, 1) := by decide +kernel
theorem dX5_append_135 : decode cX5_append 135 = .ok (.sipush 512, 3) := by decide +kernel
theorem dX5_append_138 : decode cX5_append 138 = .ok (.idiv, 1) := by decide +kernel
theorem dX5_append_139 : decode cX5_append 139 = .ok (.invokestatic 56, 3) := by decide +kernel
theorem dX5_append_142 : decode cX5_append 142 = .ok (.putfield 53, 3) := by decide +kernel
theorem dX5_append_145 : decode cX5_append 145 = .ok (.aload_n 0, 1) := by decide +kernel
theorem dX5_append_146 : decode cX5_append 146 = .ok (.iload_n 2, 1) := by decide +kernel
theorem dX5_append_147 : decode cX5_append 147 = .ok (.iconst 2, 1) := by decide +kernel
theorem dX5_append_148 : decode cX5_append 148 = .ok (.iadd, 1) := by decide +kernel
theorem dX5_append_149 : decode cX5_append 149 = .ok (.iload_n 2, 1) := by decide +kernel
theorem dX5_append_150 : decode cX5_append 150 = .ok (.aload_n 1, 1) := by decide +kernel
theorem dX5_append_151 : decode cX5_append 151 = .ok (.getfield 26, 3) := by decide +kernel
theorem dX5_append_154 : decode cX5_append 154 = .ok (.iadd, 1) := by decide +kernel
theorem dX5_append_155 : decode cX5_append 155 = .ok (.iconst 1, 1) := by decide +kernel
theorem dX5_append_156 : decode cX5_append 156 = .ok (.isub, 1) := by decide +kernel
theorem dX5_append_157 : decode cX5_append 157 = .ok (.invokevirtual 59, 3) := by decide +kernel
theorem dX5_append_160 : decode cX5_append 160 = .ok (.return_, 1) := by decide +kernel
theorem dX5_enlist_0 : decode cX5_enlist 0 = .ok (.iload_n 1, 1) := by decide +kernel
theorem dX5_enlist_1 : decode cX5_enlist 1 = .ok (.istore_n 3, 1) := by decide +kernel
theorem dX5_enlist_2 : decode cX5_enlist 2 = .ok (.iconst 0, 1) := by decide +kernel
theorem dX5_enlist_3 : decode cX5_enlist 3 = .ok (.istore 4, 2) := by decide +kernel
theorem dX5_enlist_5 : decode cX5_enlist 5 = .ok (.iload 4, 2) := by decide +kernel
theorem dX5_enlist_7 : decode cX5_enlist 7 = .ok (.sipush 2048, 3) := by decide +kernel
theorem dX5_enlist_10 : decode cX5_enlist 10 = .ok (.if_icmp .ge 30, 3) := by decide +kernel
theorem dX5_enlist_13 : decode cX5_enlist 13 = .ok (.iload_n 3, 1) := by decide +kernel
theorem dX5_enlist_14 : decode cX5_enlist 14 = .ok (.iload_n 2, 1) := by decide +kernel
theorem dX5_enlist_15 : decode cX5_enlist 15 = .ok (.if_icmp .ge 25, 3) := by decide +kernel
theorem dX5_enlist_18 : decode cX5_enlist 18 = .ok (.aload_n 0, 1) := by decide +kernel
theorem dX5_enlist_19 : decode cX5_enlist 19 = .ok (.iload_n 3, 1) := by decide +kernel
theorem dX5_enlist_20 : decode cX5_enlist 20 = .ok (.invokevirtual 63, 3) := by decide +kernel
theorem dX5_enlist_23 : decode cX5_enlist 23 = .ok (.iload_n 3, 1) := by decide +kernel
theorem dX5_enlist_24 : decode cX5_enlist 24 = .ok (.aload_n 0, 1) := by decide +kernel
theorem dX5_enlist_25 : decode cX5_enlist 25 = .ok (.getfield 15, 3) := by decide +kernel
theorem dX5_enlist_28 : decode cX5_enlist 28 = .ok (.iload_n 3, 1) := by decide +kernel
theorem dX5_enlist_29 : decode cX5_enlist 29 = .ok (.invokevirtual 67, 3) := by decide +kernel
theorem dX5_enlist_32 : decode cX5_enlist 32 = .ok (.iadd, 1) := by decide +kernel
theorem dX5_enlist_33 : decode cX5_enlist 33 = .ok (.istore_n 3, 1) := by decide +kernel
theorem dX5_enlist_34 : decode cX5_enlist 34 = .ok (.iinc 4 1, 3) := by decide +kernel
theorem dX5_enlist_37 : decode cX5_enlist 37 = .ok (.goto (-32), 3) := by decide +kernel
theorem dX5_enlist_40 : decode cX5_enlist 40 = .ok (.return_, 1) := by decide +kernel
theorem dX5_enlistOne_0 : decode cX5_enlistOne 0 = .ok (.iconst 0, 1) := by decide +kernel
theorem dX5_enlistOne_1 : decode cX5_enlistOne 1 = .ok (.istore_n 2, 1) := by decide +kernel
theorem dX5_enlistOne_2 : decode cX5_enlistOne 2 = .ok (.aload_n 0, 1) := by decide +kernel
theorem dX5_enlistOne_3 : decode cX5_enlistOne 3 = .ok (.getfield 31, 3) := by decide +kernel
theorem dX5_enlistOne_6 : decode cX5_enlistOne 6 = .ok (.istore_n 3, 1) := by decide +kernel
theorem dX5_enlistOne_7 : decode cX5_enlistOne 7 = .ok (.iconst 0, 1) := by decide +kernel
theorem dX5_enlistOne_8 : decode cX5_enlistOne 8 = .ok (.istore 4, 2) := by decide +kernel
theorem dX5_enlistOne_10 : decode cX5_enlistOne 10 = .ok (.iload 4, 2) := by decide +kernel
theorem dX5_enlistOne_12 : decode cX5_enlistOne 12 = .ok (.sipush 2048, 3) := by decide +kernel
theorem dX5_enlistOne_15 : decode cX5_enlistOne 15 = .ok (.if_icmp .ge 50, 3) := by decide +kernel
theorem dX5_enlistOne_18 : decode cX5_enlistOne 18 = .ok (.iload_n 2, 1) := by decide +kernel
theorem dX5_enlistOne_19 : decode cX5_enlistOne 19 = .ok (.iload_n 3, 1) := by decide +kernel
theorem dX5_enlistOne_20 : decode cX5_enlistOne 20 = .ok (.if_icmp .ge 45, 3) := by decide +kernel
theorem dX5_enlistOne_23 : decode cX5_enlistOne 23 = .ok (.iload_n 2, 1) := by decide +kernel
theorem dX5_enlistOne_24 : decode cX5_enlistOne 24 = .ok (.iload_n 3, 1) := by decide +kernel
theorem dX5_enlistOne_25 : decode cX5_enlistOne 25 = .ok (.iadd, 1) := by decide +kernel
theorem dX5_enlistOne_26 : decode cX5_enlistOne 26 = .ok (.iconst 2, 1) := by decide +kernel
theorem dX5_enlistOne_27 : decode cX5_enlistOne 27 = .ok (.idiv, 1) := by decide +kernel
theorem dX5_enlistOne_28 : decode cX5_enlistOne 28 = .ok (.istore 5, 2) := by decide +kernel
theorem dX5_enlistOne_30 : decode cX5_enlistOne 30 = .ok (.aload_n 0, 1) := by decide +kernel
theorem dX5_enlistOne_31 : decode cX5_enlistOne 31 = .ok (.getfield 15, 3) := by decide +kernel
theorem dX5_enlistOne_34 : decode cX5_enlistOne 34 = .ok (.aload_n 0, 1) := by decide +kernel
theorem dX5_enlistOne_35 : decode cX5_enlistOne 35 = .ok (.getfield 9, 3) := by decide +kernel
theorem dX5_enlistOne_38 : decode cX5_enlistOne 38 = .ok (.iload 5, 2) := by decide +kernel
theorem dX5_enlistOne_40 : decode cX5_enlistOne 40 = .ok (.iaload, 1) := by decide +kernel
theorem dX5_enlistOne_41 : decode cX5_enlistOne 41 = .ok (.iload_n 1, 1) := by decide +kernel
theorem dX5_enlistOne_42 : decode cX5_enlistOne 42 = .ok (.invokevirtual 71, 3) := by decide +kernel
theorem dX5_enlistOne_45 : decode cX5_enlistOne 45 = .ok (.ifCond .eq 11, 3) := by decide +kernel
theorem dX5_enlistOne_48 : decode cX5_enlistOne 48 = .ok (.iload 5, 2) := by decide +kernel
theorem dX5_enlistOne_50 : decode cX5_enlistOne 50 = .ok (.iconst 1, 1) := by decide +kernel
theorem dX5_enlistOne_51 : decode cX5_enlistOne 51 = .ok (.iadd, 1) := by decide +kernel
theorem dX5_enlistOne_52 : decode cX5_enlistOne 52 = .ok (.istore_n 2, 1) := by decide +kernel
theorem dX5_enlistOne_53 : decode cX5_enlistOne 53 = .ok (.goto 6, 3) := by decide +kernel
theorem dX5_enlistOne_56 : decode cX5_enlistOne 56 = .ok (.iload 5, 2) := by decide +kernel
theorem dX5_enlistOne_58 : decode cX5_enlistOne 58 = .ok (.istore_n 3, 1) := by decide +kernel
theorem dX5_enlistOne_59 : decode cX5_enlistOne 59 = .ok (.iinc 4 1, 3) := by decide +kernel
theorem dX5_enlistOne_62 : decode cX5_enlistOne 62 = .ok (.goto (-52), 3) := by decide +kernel
theorem dX5_enlistOne_65 : decode cX5_enlistOne 65 = .ok (.iload_n 2, 1) := by decide +kernel
theorem dX5_enlistOne_66 : decode cX5_enlistOne 66 = .ok (.aload_n 0, 1) := by decide +kernel
theorem dX5_enlistOne_67 : decode cX5_enlistOne 67 = .ok (.getfield 31, 3) := by decide +kernel
theorem dX5_enlistOne_70 : decode cX5_enlistOne 70 = .ok (.if_icmp .ge 24, 3) := by decide +kernel
theorem dX5_enlistOne_73 : decode cX5_enlistOne 73 = .ok (.aload_n 0, 1) := by decide +kernel
theorem dX5_enlistOne_74 : decode cX5_enlistOne 74 = .ok (.getfield 15, 3) := by decide +kernel
theorem dX5_enlistOne_77 : decode cX5_enlistOne 77 = .ok (.iload_n 1, 1) := by decide +kernel
theorem dX5_enlistOne_78 : decode cX5_enlistOne 78 = .ok (.aload_n 0, 1) := by decide +kernel
theorem dX5_enlistOne_79 : decode cX5_enlistOne 79 = .ok (.getfield 9, 3) := by decide +kernel
theorem dX5_enlistOne_82 : decode cX5_enlistOne 82 = .ok (.iload_n 2, 1) := by decide +kernel
theorem dX5_enlistOne_83 : decode cX5_enlistOne 83 = .ok (.iaload, 1) := by decide +kernel
theorem dX5_enlistOne_84 : decode cX5_enlistOne 84 = .ok (.invokevirtual 71, 3) := by decide +kernel
theorem dX5_enlistOne_87 : decode cX5_enlistOne 87 = .ok (.ifCond .ne 7, 3) := by decide +kernel
theorem dX5_enlistOne_90 : decode cX5_enlistOne 90 = .ok (.iconst 1, 1) := by decide +kernel
theorem dX5_enlistOne_91 : decode cX5_enlistOne 91 = .ok (.goto 4, 3) := by decide +kernel
theorem dX5_enlistOne_94 : decode cX5_enlistOne 94 = .ok (.iconst 0, 1) := by decide +kernel
theorem dX5_enlistOne_95 : decode cX5_enlistOne 95 = .ok (.istore 4, 2) := by decide +kernel
theorem dX5_enlistOne_97 : decode cX5_enlistOne 97 = .ok (.iload 4, 2) := by decide +kernel
theorem dX5_enlistOne_99 : decode cX5_enlistOne 99 = .ok (.ifCond .ne 44, 3) := by decide +kernel
theorem dX5_enlistOne_102 : decode cX5_enlistOne 102 = .ok (.aload_n 0, 1) := by decide +kernel
theorem dX5_enlistOne_103 : decode cX5_enlistOne 103 = .ok (.getfield 31, 3) := by decide +kernel
theorem dX5_enlistOne_106 : decode cX5_enlistOne 106 = .ok (.sipush 2048, 3) := by decide +kernel
theorem dX5_enlistOne_109 : decode cX5_enlistOne 109 = .ok (.if_icmp .ge 34, 3) := by decide +kernel
theorem dX5_enlistOne_112 : decode cX5_enlistOne 112 = .ok (.aload_n 0, 1) := by decide +kernel
theorem dX5_enlistOne_113 : decode cX5_enlistOne 113 = .ok (.getfield 9, 3) := by decide +kernel
theorem dX5_enlistOne_116 : decode cX5_enlistOne 116 = .ok (.iload_n 2, 1) := by decide +kernel
theorem dX5_enlistOne_117 : decode cX5_enlistOne 117 = .ok (.aload_n 0, 1) := by decide +kernel
theorem dX5_enlistOne_118 : decode cX5_enlistOne 118 = .ok (.getfield 9, 3) := by decide +kernel
theorem dX5_enlistOne_121 : decode cX5_enlistOne 121 = .ok (.iload_n 2, 1) := by decide +kernel
theorem dX5_enlistOne_122 : decode cX5_enlistOne 122 = .ok (.iconst 1, 1) := by decide +kernel
theorem dX5_enlistOne_123 : decode cX5_enlistOne 123 = .ok (.iadd, 1) := by decide +kernel
theorem dX5_enlistOne_124 : decode cX5_enlistOne 124 = .ok (.aload_n 0, 1) := by decide +kernel
theorem dX5_enlistOne_125 : decode cX5_enlistOne 125 = .ok (.getfield 31, 3) := by decide +kernel
theorem dX5_enlistOne_128 : decode cX5_enlistOne 128 = .ok (.iload_n 2, 1) := by decide +kernel
theorem dX5_enlistOne_129 : decode cX5_enlistOne 129 = .ok (.isub, 1) := by decide +kernel
theorem dX5_enlistOne_130 : decode cX5_enlistOne 130 = .ok (.invokestatic 75, 3) := by decide +kernel
theorem dX5_enlistOne_133 : decode cX5_enlistOne 133 = .ok (.aload_n 0, 1) := by decide +kernel
theorem dX5_enlistOne_134 : decode cX5_enlistOne 134 = .ok (.dup, 1) := by decide +kernel
theorem dX5_enlistOne_135 : decode cX5_enlistOne 135 = .ok (.getfield 31, 3) := by decide +kernel
theorem dX5_enlistOne_138 : decode cX5_enlistOne 138 = .ok (.iconst 1, 1) := by decide +kernel
theorem dX5_enlistOne_139 : decode cX5_enlistOne 139 = .ok (.iadd, 1) := by decide +kernel
theorem dX5_enlistOne_140 : decode cX5_enlistOne 140 = .ok (.putfield 31, 3) := by decide +kernel
theorem dX5_enlistOne_143 : decode cX5_enlistOne 143 = .ok (.iload_n 2, 1) := by decide +kernel
theorem dX5_enlistOne_144 : decode cX5_enlistOne 144 = .ok (.aload_n 0, 1) := by decide +kernel
theorem dX5_enlistOne_145 : decode cX5_enlistOne 145 = .ok (.getfield 31, 3) := by decide +kernel
theorem dX5_enlistOne_148 : decode cX5_enlistOne 148 = .ok (.if_icmp .ge 10, 3) := by decide +kernel
theorem dX5_enlistOne_151 : decode cX5_enlistOne 151 = .ok (.aload_n 0, 1) := by decide +kernel
theorem dX5_enlistOne_152 : decode cX5_enlistOne 152 = .ok (.getfield 9, 3) := by decide +kernel
theorem dX5_enlistOne_155 : decode cX5_enlistOne 155 = .ok (.iload_n 2, 1) := by decide +kernel
theorem dX5_enlistOne_156 : decode cX5_enlistOne 156 = .ok (.iload_n 1, 1) := by decide +kernel
theorem dX5_enlistOne_157 : decode cX5_enlistOne 157 = .ok (.iastore, 1) := by decide +kernel
theorem dX5_enlistOne_158 : decode cX5_enlistOne 158 = .ok (.return_, 1) := by decide +kernel
theorem dX5_open_0 : decode cX5_open 0 = .ok (.aload_n 0, 1) := by decide +kernel
theorem dX5_open_1 : decode cX5_open 1 = .ok (.iload_n 1, 1) := by decide +kernel
theorem dX5_open_2 : decode cX5_open 2 = .ok (.iconst 1, 1) := by decide +kernel
theorem dX5_open_3 : decode cX5_open 3 = .ok (.if_icmp .ne 7, 3) := by decide +kernel
theorem dX5_open_6 : decode cX5_open 6 = .ok (.iconst 1, 1) := by decide +kernel
theorem dX5_open_7 : decode cX5_open 7 = .ok (.goto 4, 3) := by decide +kernel
theorem dX5_open_10 : decode cX5_open 10 = .ok (.iconst 0, 1) := by decide +kernel
theorem dX5_open_11 : decode cX5_open 11 = .ok (.putfield 19, 3) := by decide +kernel
theorem dX5_open_14 : decode cX5_open 14 = .ok (.aload_n 0, 1) := by decide +kernel
theorem dX5_open_15 : decode cX5_open 15 = .ok (.iconst 0, 1) := by decide +kernel
theorem dX5_open_16 : decode cX5_open 16 = .ok (.putfield 31, 3) := by decide +kernel
theorem dX5_open_19 : decode cX5_open 19 = .ok (.aload_n 0, 1) := by decide +kernel
theorem dX5_open_20 : decode cX5_open 20 = .ok (.iconst 0, 1) := by decide +kernel
theorem dX5_open_21 : decode cX5_open 21 = .ok (.putfield 23, 3) := by decide +kernel
theorem dX5_open_24 : decode cX5_open 24 = .ok (.aload_n 0, 1) := by decide +kernel
theorem dX5_open_25 : decode cX5_open 25 = .ok (.bipush 36, 2) := by decide +kernel
theorem dX5_open_27 : decode cX5_open 27 = .ok (.putfield 53, 3) := by decide +kernel
theorem dX5_open_30 : decode cX5_open 30 = .ok (.aload_n 0, 1) := by decide +kernel
theorem dX5_open_31 : decode cX5_open 31 = .ok (.bipush 36, 2) := by decide +kernel
theorem dX5_open_33 : decode cX5_open 33 = .ok (.putfield 81, 3) := by decide +kernel
theorem dX5_open_36 : decode cX5_open 36 = .ok (.return_, 1) := by decide +kernel
theorem dX5_replay_0 : decode cX5_replay 0 = .ok (.iconst 0, 1) := by decide +kernel
theorem dX5_replay_1 : decode cX5_replay 1 = .ok (.istore_n 1, 1) := by decide +kernel
theorem dX5_replay_2 : decode cX5_replay 2 = .ok (.sipush 4096, 3) := by decide +kernel
theorem dX5_replay_5 : decode cX5_replay 5 = .ok (.aload_n 0, 1) := by decide +kernel
theorem dX5_replay_6 : decode cX5_replay 6 = .ok (.getfield 19, 3) := by decide +kernel
theorem dX5_replay_9 : decode cX5_replay 9 = .ok (.sipush 18432, 3) := by decide +kernel
theorem dX5_replay_12 : decode cX5_replay 12 = .ok (.imul, 1) := by decide +kernel
theorem dX5_replay_13 : decode cX5_replay 13 = .ok (.iadd, 1) := by decide +kernel
theorem dX5_replay_14 : decode cX5_replay 14 = .ok (.istore_n 2, 1) := by decide +kernel
theorem dX5_replay_15 : decode cX5_replay 15 = .ok (.iconst 0, 1) := by decide +kernel
theorem dX5_replay_16 : decode cX5_replay 16 = .ok (.istore_n 3, 1) := by decide +kernel
theorem dX5_replay_17 : decode cX5_replay 17 = .ok (.iload_n 3, 1) := by decide +kernel
theorem dX5_replay_18 : decode cX5_replay 18 = .ok (.sipush 18432, 3) := by decide +kernel
theorem dX5_replay_21 : decode cX5_replay 21 = .ok (.if_icmp .ge 94, 3) := by decide +kernel
theorem dX5_replay_24 : decode cX5_replay 24 = .ok (.aload_n 0, 1) := by decide +kernel
theorem dX5_replay_25 : decode cX5_replay 25 = .ok (.getfield 15, 3) := by decide +kernel
theorem dX5_replay_28 : decode cX5_replay 28 = .ok (.iload_n 2, 1) := by decide +kernel
theorem dX5_replay_29 : decode cX5_replay 29 = .ok (.aload_n 0, 1) := by decide +kernel
theorem dX5_replay_30 : decode cX5_replay 30 = .ok (.getfield 23, 3) := by decide +kernel
theorem dX5_replay_33 : decode cX5_replay 33 = .ok (.iadd, 1) := by decide +kernel
theorem dX5_replay_34 : decode cX5_replay 34 = .ok (.iconst 2, 1) := by decide +kernel
theorem dX5_replay_35 : decode cX5_replay 35 = .ok (.invokevirtual 84, 3) := by decide +kernel
theorem dX5_replay_38 : decode cX5_replay 38 = .ok (.istore 4, 2) := by decide +kernel
theorem dX5_replay_40 : decode cX5_replay 40 = .ok (.aload_n 0, 1) := by decide +kernel
theorem dX5_replay_41 : decode cX5_replay 41 = .ok (.getfield 23, 3) := by decide +kernel
theorem dX5_replay_44 : decode cX5_replay 44 = .ok (.iconst 2, 1) := by decide +kernel
theorem dX5_replay_45 : decode cX5_replay 45 = .ok (.iadd, 1) := by decide +kernel
theorem dX5_replay_46 : decode cX5_replay 46 = .ok (.iload 4, 2) := by decide +kernel
theorem dX5_replay_48 : decode cX5_replay 48 = .ok (.iadd, 1) := by decide +kernel
theorem dX5_replay_49 : decode cX5_replay 49 = .ok (.iconst 1, 1) := by decide +kernel
theorem dX5_replay_50 : decode cX5_replay 50 = .ok (.iadd, 1) := by decide +kernel
theorem dX5_replay_51 : decode cX5_replay 51 = .ok (.istore 5, 2) := by decide +kernel
theorem dX5_replay_53 : decode cX5_replay 53 = .ok (.iload 5, 2) := by decide +kernel
theorem dX5_replay_55 : decode cX5_replay 55 = .ok (.sipush 18432, 3) := by decide +kernel
theorem dX5_replay_58 : decode cX5_replay 58 = .ok (.if_icmp .gt 22, 3) := by decide +kernel
theorem dX5_replay_61 : decode cX5_replay 61 = .ok (.aload_n 0, 1) := by decide +kernel
theorem dX5_replay_62 : decode cX5_replay 62 = .ok (.getfield 15, 3) := by decide +kernel
theorem dX5_replay_65 : decode cX5_replay 65 = .ok (.iload_n 2, 1) := by decide +kernel
theorem dX5_replay_66 : decode cX5_replay 66 = .ok (.iload 5, 2) := by decide +kernel
theorem dX5_replay_68 : decode cX5_replay 68 = .ok (.iadd, 1) := by decide +kernel
theorem dX5_replay_69 : decode cX5_replay 69 = .ok (.iconst 1, 1) := by decide +kernel
theorem dX5_replay_70 : decode cX5_replay 70 = .ok (.isub, 1) := by decide +kernel
theorem dX5_replay_71 : decode cX5_replay 71 = .ok (.invokevirtual 87, 3) := by decide +kernel
theorem dX5_replay_74 : decode cX5_replay 74 = .ok (.sipush 165, 3) := by decide +kernel
theorem dX5_replay_77 : decode cX5_replay 77 = .ok (.if_icmp .eq 5, 3) := by decide +kernel
theorem dX5_replay_80 : decode cX5_replay 80 = .ok (.iload_n 1, 1) := by decide +kernel
theorem dX5_replay_81 : decode cX5_replay 81 = .ok (.ireturn, 1) := by decide +kernel
theorem dX5_replay_82 : decode cX5_replay 82 = .ok (.aload_n 0, 1) := by decide +kernel
theorem dX5_replay_83 : decode cX5_replay 83 = .ok (.iload_n 2, 1) := by decide +kernel
theorem dX5_replay_84 : decode cX5_replay 84 = .ok (.aload_n 0, 1) := by decide +kernel
theorem dX5_replay_85 : decode cX5_replay 85 = .ok (.getfield 23, 3) := by decide +kernel
theorem dX5_replay_88 : decode cX5_replay 88 = .ok (.iadd, 1) := by decide +kernel
theorem dX5_replay_89 : decode cX5_replay 89 = .ok (.iconst 2, 1) := by decide +kernel
theorem dX5_replay_90 : decode cX5_replay 90 = .ok (.iadd, 1) := by decide +kernel
theorem dX5_replay_91 : decode cX5_replay 91 = .ok (.iload_n 2, 1) := by decide +kernel
theorem dX5_replay_92 : decode cX5_replay 92 = .ok (.iload 5, 2) := by decide +kernel
theorem dX5_replay_94 : decode cX5_replay 94 = .ok (.iadd, 1) := by decide +kernel
theorem dX5_replay_95 : decode cX5_replay 95 = .ok (.iconst 1, 1) := by decide +kernel
theorem dX5_replay_96 : decode cX5_replay 96 = .ok (.isub, 1) := by decide +kernel
theorem dX5_replay_97 : decode cX5_replay 97 = .ok (.invokevirtual 59, 3) := by decide +kernel
theorem dX5_replay_100 : decode cX5_replay 100 = .ok (.aload_n 0, 1) := by decide +kernel
theorem dX5_replay_101 : decode cX5_replay 101 = .ok (.iload 5, 2) := by decide +kernel
theorem dX5_replay_103 : decode cX5_replay 103 = .ok (.putfield 23, 3) := by decide +kernel
theorem dX5_replay_106 : decode cX5_replay 106 = .ok (.iinc 1 1, 3) := by decide +kernel
theorem dX5_replay_109 : decode cX5_replay 109 = .ok (.iinc 3 1, 3) := by decide +kernel
theorem dX5_replay_112 : decode cX5_replay 112 = .ok (.goto (-95), 3) := by decide +kernel
theorem dX5_replay_115 : decode cX5_replay 115 = .ok (.iload_n 1, 1) := by decide +kernel
theorem dX5_replay_116 : decode cX5_replay 116 = .ok (.ireturn, 1) := by decide +kernel
theorem dX5_clearOther_0 : decode cX5_clearOther 0 = .ok (.sipush 4096, 3) := by decide +kernel
theorem dX5_clearOther_3 : decode cX5_clearOther 3 = .ok (.iconst 1, 1) := by decide +kernel
theorem dX5_clearOther_4 : decode cX5_clearOther 4 = .ok (.aload_n 0, 1) := by decide +kernel
theorem dX5_clearOther_5 : decode cX5_clearOther 5 = .ok (.getfield 19, 3) := by decide +kernel
theorem dX5_clearOther_8 : decode cX5_clearOther 8 = .ok (.isub, 1) := by decide +kernel
theorem dX5_clearOther_9 : decode cX5_clearOther 9 = .ok (.sipush 18432, 3) := by decide +kernel
theorem dX5_clearOther_12 : decode cX5_clearOther 12 = .ok (.imul, 1) := by decide +kernel
theorem dX5_clearOther_13 : decode cX5_clearOther 13 = .ok (.iadd, 1) := by decide +kernel
theorem dX5_clearOther_14 : decode cX5_clearOther 14 = .ok (.istore_n 1, 1) := by decide +kernel
theorem dX5_clearOther_15 : decode cX5_clearOther 15 = .ok (.iconst 0, 1) := by decide +kernel
theorem dX5_clearOther_16 : decode cX5_clearOther 16 = .ok (.istore_n 2, 1) := by decide +kernel
theorem dX5_clearOther_17 : decode cX5_clearOther 17 = .ok (.iload_n 2, 1) := by decide +kernel
theorem dX5_clearOther_18 : decode cX5_clearOther 18 = .ok (.aload_n 0, 1) := by decide +kernel
theorem dX5_clearOther_19 : decode cX5_clearOther 19 = .ok (.getfield 81, 3) := by decide +kernel
theorem dX5_clearOther_22 : decode cX5_clearOther 22 = .ok (.if_icmp .ge 23, 3) := by decide +kernel
theorem dX5_clearOther_25 : decode cX5_clearOther 25 = .ok (.aload_n 0, 1) := by decide +kernel
theorem dX5_clearOther_26 : decode cX5_clearOther 26 = .ok (.getfield 15, 3) := by decide +kernel
theorem dX5_clearOther_29 : decode cX5_clearOther 29 = .ok (.iload_n 1, 1) := by decide +kernel
theorem dX5_clearOther_30 : decode cX5_clearOther 30 = .ok (.iload_n 2, 1) := by decide +kernel
theorem dX5_clearOther_31 : decode cX5_clearOther 31 = .ok (.sipush 512, 3) := by decide +kernel
theorem dX5_clearOther_34 : decode cX5_clearOther 34 = .ok (.imul, 1) := by decide +kernel
theorem dX5_clearOther_35 : decode cX5_clearOther 35 = .ok (.iadd, 1) := by decide +kernel
theorem dX5_clearOther_36 : decode cX5_clearOther 36 = .ok (.invokevirtual 90, 3) := by decide +kernel
theorem dX5_clearOther_39 : decode cX5_clearOther 39 = .ok (.iinc 2 1, 3) := by decide +kernel
theorem dX5_clearOther_42 : decode cX5_clearOther 42 = .ok (.goto (-25), 3) := by decide +kernel
theorem dX5_clearOther_45 : decode cX5_clearOther 45 = .ok (.return_, 1) := by decide +kernel
theorem dX5_change_0 : decode cX5_change 0 = .ok (.aload_n 0, 1) := by decide +kernel
theorem dX5_change_1 : decode cX5_change 1 = .ok (.iconst 1, 1) := by decide +kernel
theorem dX5_change_2 : decode cX5_change 2 = .ok (.aload_n 0, 1) := by decide +kernel
theorem dX5_change_3 : decode cX5_change 3 = .ok (.getfield 19, 3) := by decide +kernel
theorem dX5_change_6 : decode cX5_change 6 = .ok (.isub, 1) := by decide +kernel
theorem dX5_change_7 : decode cX5_change 7 = .ok (.putfield 19, 3) := by decide +kernel
theorem dX5_change_10 : decode cX5_change 10 = .ok (.aload_n 0, 1) := by decide +kernel
theorem dX5_change_11 : decode cX5_change 11 = .ok (.aload_n 0, 1) := by decide +kernel
theorem dX5_change_12 : decode cX5_change 12 = .ok (.getfield 53, 3) := by decide +kernel
theorem dX5_change_15 : decode cX5_change 15 = .ok (.putfield 81, 3) := by decide +kernel
theorem dX5_change_18 : decode cX5_change 18 = .ok (.aload_n 0, 1) := by decide +kernel
theorem dX5_change_19 : decode cX5_change 19 = .ok (.iconst 0, 1) := by decide +kernel
theorem dX5_change_20 : decode cX5_change 20 = .ok (.putfield 53, 3) := by decide +kernel
theorem dX5_change_23 : decode cX5_change 23 = .ok (.aload_n 0, 1) := by decide +kernel
theorem dX5_change_24 : decode cX5_change 24 = .ok (.iconst 0, 1) := by decide +kernel
theorem dX5_change_25 : decode cX5_change 25 = .ok (.putfield 31, 3) := by decide +kernel
theorem dX5_change_28 : decode cX5_change 28 = .ok (.aload_n 0, 1) := by decide +kernel
theorem dX5_change_29 : decode cX5_change 29 = .ok (.iconst 0, 1) := by decide +kernel
theorem dX5_change_30 : decode cX5_change 30 = .ok (.putfield 23, 3) := by decide +kernel
theorem dX5_change_33 : decode cX5_change 33 = .ok (.return_, 1) := by decide +kernel
theorem dX5_first_0 : decode cX5_first 0 = .ok (.aload_n 0, 1) := by decide +kernel
theorem dX5_first_1 : decode cX5_first 1 = .ok (.getfield 31, 3) := by decide +kernel
theorem dX5_first_4 : decode cX5_first 4 = .ok (.ifCond .le 12, 3) := by decide +kernel
theorem dX5_first_7 : decode cX5_first 7 = .ok (.aload_n 0, 1) := by decide +kernel
theorem dX5_first_8 : decode cX5_first 8 = .ok (.getfield 9, 3) := by decide +kernel
theorem dX5_first_11 : decode cX5_first 11 = .ok (.iconst 0, 1) := by decide +kernel
theorem dX5_first_12 : decode cX5_first 12 = .ok (.iaload, 1) := by decide +kernel
theorem dX5_first_13 : decode cX5_first 13 = .ok (.goto 4, 3) := by decide +kernel
theorem dX5_first_16 : decode cX5_first 16 = .ok (.iconst (-1), 1) := by decide +kernel
theorem dX5_first_17 : decode cX5_first 17 = .ok (.ireturn, 1) := by decide +kernel
theorem dX5_last_0 : decode cX5_last 0 = .ok (.aload_n 0, 1) := by decide +kernel
theorem dX5_last_1 : decode cX5_last 1 = .ok (.getfield 31, 3) := by decide +kernel
theorem dX5_last_4 : decode cX5_last 4 = .ok (.ifCond .le 27, 3) := by decide +kernel
theorem dX5_last_7 : decode cX5_last 7 = .ok (.aload_n 0, 1) := by decide +kernel
theorem dX5_last_8 : decode cX5_last 8 = .ok (.getfield 31, 3) := by decide +kernel
theorem dX5_last_11 : decode cX5_last 11 = .ok (.sipush 2048, 3) := by decide +kernel
theorem dX5_last_14 : decode cX5_last 14 = .ok (.if_icmp .gt 17, 3) := by decide +kernel
theorem dX5_last_17 : decode cX5_last 17 = .ok (.aload_n 0, 1) := by decide +kernel
theorem dX5_last_18 : decode cX5_last 18 = .ok (.getfield 9, 3) := by decide +kernel
theorem dX5_last_21 : decode cX5_last 21 = .ok (.aload_n 0, 1) := by decide +kernel
theorem dX5_last_22 : decode cX5_last 22 = .ok (.getfield 31, 3) := by decide +kernel
theorem dX5_last_25 : decode cX5_last 25 = .ok (.iconst 1, 1) := by decide +kernel
theorem dX5_last_26 : decode cX5_last 26 = .ok (.isub, 1) := by decide +kernel
theorem dX5_last_27 : decode cX5_last 27 = .ok (.iaload, 1) := by decide +kernel
theorem dX5_last_28 : decode cX5_last 28 = .ok (.goto 4, 3) := by decide +kernel
theorem dX5_last_31 : decode cX5_last 31 = .ok (.iconst (-1), 1) := by decide +kernel
theorem dX5_last_32 : decode cX5_last 32 = .ok (.ireturn, 1) := by decide +kernel
theorem dX5_find_0 : decode cX5_find 0 = .ok (.aload_n 0, 1) := by decide +kernel
theorem dX5_find_1 : decode cX5_find 1 = .ok (.aload_n 1, 1) := by decide +kernel
theorem dX5_find_2 : decode cX5_find 2 = .ok (.iload_n 2, 1) := by decide +kernel
theorem dX5_find_3 : decode cX5_find 3 = .ok (.invokevirtual 93, 3) := by decide +kernel
theorem dX5_find_6 : decode cX5_find 6 = .ok (.istore_n 3, 1) := by decide +kernel
theorem dX5_find_7 : decode cX5_find 7 = .ok (.iload_n 3, 1) := by decide +kernel
theorem dX5_find_8 : decode cX5_find 8 = .ok (.aload_n 0, 1) := by decide +kernel
theorem dX5_find_9 : decode cX5_find 9 = .ok (.getfield 31, 3) := by decide +kernel
theorem dX5_find_12 : decode cX5_find 12 = .ok (.if_icmp .ge 29, 3) := by decide +kernel
theorem dX5_find_15 : decode cX5_find 15 = .ok (.aload_n 0, 1) := by decide +kernel
theorem dX5_find_16 : decode cX5_find 16 = .ok (.getfield 15, 3) := by decide +kernel
theorem dX5_find_19 : decode cX5_find 19 = .ok (.aload_n 0, 1) := by decide +kernel
theorem dX5_find_20 : decode cX5_find 20 = .ok (.getfield 9, 3) := by decide +kernel
theorem dX5_find_23 : decode cX5_find 23 = .ok (.iload_n 3, 1) := by decide +kernel
theorem dX5_find_24 : decode cX5_find 24 = .ok (.iaload, 1) := by decide +kernel
theorem dX5_find_25 : decode cX5_find 25 = .ok (.aload_n 1, 1) := by decide +kernel
theorem dX5_find_26 : decode cX5_find 26 = .ok (.invokevirtual 97, 3) := by decide +kernel
theorem dX5_find_29 : decode cX5_find 29 = .ok (.ifCond .eq 12, 3) := by decide +kernel
theorem dX5_find_32 : decode cX5_find 32 = .ok (.aload_n 0, 1) := by decide +kernel
theorem dX5_find_33 : decode cX5_find 33 = .ok (.getfield 9, 3) := by decide +kernel
theorem dX5_find_36 : decode cX5_find 36 = .ok (.iload_n 3, 1) := by decide +kernel
theorem dX5_find_37 : decode cX5_find 37 = .ok (.iaload, 1) := by decide +kernel
theorem dX5_find_38 : decode cX5_find 38 = .ok (.goto 4, 3) := by decide +kernel
theorem dX5_find_41 : decode cX5_find 41 = .ok (.iconst (-1), 1) := by decide +kernel
theorem dX5_find_42 : decode cX5_find 42 = .ok (.ireturn, 1) := by decide +kernel
theorem dX5_from_0 : decode cX5_from 0 = .ok (.aload_n 0, 1) := by decide +kernel
theorem dX5_from_1 : decode cX5_from 1 = .ok (.aload_n 1, 1) := by decide +kernel
theorem dX5_from_2 : decode cX5_from 2 = .ok (.iload_n 2, 1) := by decide +kernel
theorem dX5_from_3 : decode cX5_from 3 = .ok (.invokevirtual 93, 3) := by decide +kernel
theorem dX5_from_6 : decode cX5_from 6 = .ok (.istore_n 3, 1) := by decide +kernel
theorem dX5_from_7 : decode cX5_from 7 = .ok (.iload_n 3, 1) := by decide +kernel
theorem dX5_from_8 : decode cX5_from 8 = .ok (.aload_n 0, 1) := by decide +kernel
theorem dX5_from_9 : decode cX5_from 9 = .ok (.getfield 31, 3) := by decide +kernel
theorem dX5_from_12 : decode cX5_from 12 = .ok (.if_icmp .ge 12, 3) := by decide +kernel
theorem dX5_from_15 : decode cX5_from 15 = .ok (.aload_n 0, 1) := by decide +kernel
theorem dX5_from_16 : decode cX5_from 16 = .ok (.getfield 9, 3) := by decide +kernel
theorem dX5_from_19 : decode cX5_from 19 = .ok (.iload_n 3, 1) := by decide +kernel
theorem dX5_from_20 : decode cX5_from 20 = .ok (.iaload, 1) := by decide +kernel
theorem dX5_from_21 : decode cX5_from 21 = .ok (.goto 4, 3) := by decide +kernel
theorem dX5_from_24 : decode cX5_from 24 = .ok (.iconst (-1), 1) := by decide +kernel
theorem dX5_from_25 : decode cX5_from 25 = .ok (.ireturn, 1) := by decide +kernel
theorem dX5_lastBefore_0 : decode cX5_lastBefore 0 = .ok (.aload_n 0, 1) := by decide +kernel
theorem dX5_lastBefore_1 : decode cX5_lastBefore 1 = .ok (.aload_n 1, 1) := by decide +kernel
theorem dX5_lastBefore_2 : decode cX5_lastBefore 2 = .ok (.ldc 101, 2) := by decide +kernel
theorem dX5_lastBefore_4 : decode cX5_lastBefore 4 = .ok (.invokevirtual 93, 3) := by decide +kernel
theorem dX5_lastBefore_7 : decode cX5_lastBefore 7 = .ok (.istore_n 2, 1) := by decide +kernel
theorem dX5_lastBefore_8 : decode cX5_lastBefore 8 = .ok (.iload_n 2, 1) := by decide +kernel
theorem dX5_lastBefore_9 : decode cX5_lastBefore 9 = .ok (.ifCond .le 14, 3) := by decide +kernel
theorem dX5_lastBefore_12 : decode cX5_lastBefore 12 = .ok (.aload_n 0, 1) := by decide +kernel
theorem dX5_lastBefore_13 : decode cX5_lastBefore 13 = .ok (.getfield 9, 3) := by decide +kernel
theorem dX5_lastBefore_16 : decode cX5_lastBefore 16 = .ok (.iload_n 2, 1) := by decide +kernel
theorem dX5_lastBefore_17 : decode cX5_lastBefore 17 = .ok (.iconst 1, 1) := by decide +kernel
theorem dX5_lastBefore_18 : decode cX5_lastBefore 18 = .ok (.isub, 1) := by decide +kernel
theorem dX5_lastBefore_19 : decode cX5_lastBefore 19 = .ok (.iaload, 1) := by decide +kernel
theorem dX5_lastBefore_20 : decode cX5_lastBefore 20 = .ok (.goto 4, 3) := by decide +kernel
theorem dX5_lastBefore_23 : decode cX5_lastBefore 23 = .ok (.iconst (-1), 1) := by decide +kernel
theorem dX5_lastBefore_24 : decode cX5_lastBefore 24 = .ok (.ireturn, 1) := by decide +kernel
theorem dX5_countBefore_0 : decode cX5_countBefore 0 = .ok (.iconst 0, 1) := by decide +kernel
theorem dX5_countBefore_1 : decode cX5_countBefore 1 = .ok (.istore_n 3, 1) := by decide +kernel
theorem dX5_countBefore_2 : decode cX5_countBefore 2 = .ok (.aload_n 0, 1) := by decide +kernel
theorem dX5_countBefore_3 : decode cX5_countBefore 3 = .ok (.getfield 31, 3) := by decide +kernel
theorem dX5_countBefore_6 : decode cX5_countBefore 6 = .ok (.istore 4, 2) := by decide +kernel
theorem dX5_countBefore_8 : decode cX5_countBefore 8 = .ok (.iconst 0, 1) := by decide +kernel
theorem dX5_countBefore_9 : decode cX5_countBefore 9 = .ok (.istore 5, 2) := by decide +kernel
theorem dX5_countBefore_11 : decode cX5_countBefore 11 = .ok (.iload 5, 2) := by decide +kernel
theorem dX5_countBefore_13 : decode cX5_countBefore 13 = .ok (.sipush 2048, 3) := by decide +kernel
theorem dX5_countBefore_16 : decode cX5_countBefore 16 = .ok (.if_icmp .ge 54, 3) := by decide +kernel
theorem dX5_countBefore_19 : decode cX5_countBefore 19 = .ok (.iload_n 3, 1) := by decide +kernel
theorem dX5_countBefore_20 : decode cX5_countBefore 20 = .ok (.iload 4, 2) := by decide +kernel
theorem dX5_countBefore_22 : decode cX5_countBefore 22 = .ok (.if_icmp .ge 48, 3) := by decide +kernel
theorem dX5_countBefore_25 : decode cX5_countBefore 25 = .ok (.iload_n 3, 1) := by decide +kernel
theorem dX5_countBefore_26 : decode cX5_countBefore 26 = .ok (.iload 4, 2) := by decide +kernel
theorem dX5_countBefore_28 : decode cX5_countBefore 28 = .ok (.iadd, 1) := by decide +kernel
theorem dX5_countBefore_29 : decode cX5_countBefore 29 = .ok (.iconst 2, 1) := by decide +kernel
theorem dX5_countBefore_30 : decode cX5_countBefore 30 = .ok (.idiv, 1) := by decide +kernel
theorem dX5_countBefore_31 : decode cX5_countBefore 31 = .ok (.istore 6, 2) := by decide +kernel
theorem dX5_countBefore_33 : decode cX5_countBefore 33 = .ok (.aload_n 0, 1) := by decide +kernel
theorem dX5_countBefore_34 : decode cX5_countBefore 34 = .ok (.getfield 15, 3) := by decide +kernel
theorem dX5_countBefore_37 : decode cX5_countBefore 37 = .ok (.aload_n 0, 1) := by decide +kernel
theorem dX5_countBefore_38 : decode cX5_countBefore 38 = .ok (.getfield 9, 3) := by decide +kernel
theorem dX5_countBefore_41 : decode cX5_countBefore 41 = .ok (.iload 6, 2) := by decide +kernel
theorem dX5_countBefore_43 : decode cX5_countBefore 43 = .ok (.iaload, 1) := by decide +kernel
theorem dX5_countBefore_44 : decode cX5_countBefore 44 = .ok (.aload_n 1, 1) := by decide +kernel
theorem dX5_countBefore_45 : decode cX5_countBefore 45 = .ok (.iload_n 2, 1) := by decide +kernel
theorem dX5_countBefore_46 : decode cX5_countBefore 46 = .ok (.invokevirtual 102, 3) := by decide +kernel
theorem dX5_countBefore_49 : decode cX5_countBefore 49 = .ok (.ifCond .eq 11, 3) := by decide +kernel
theorem dX5_countBefore_52 : decode cX5_countBefore 52 = .ok (.iload 6, 2) := by decide +kernel
theorem dX5_countBefore_54 : decode cX5_countBefore 54 = .ok (.iconst 1, 1) := by decide +kernel
theorem dX5_countBefore_55 : decode cX5_countBefore 55 = .ok (.iadd, 1) := by decide +kernel
theorem dX5_countBefore_56 : decode cX5_countBefore 56 = .ok (.istore_n 3, 1) := by decide +kernel
theorem dX5_countBefore_57 : decode cX5_countBefore 57 = .ok (.goto 7, 3) := by decide +kernel
theorem dX5_countBefore_60 : decode cX5_countBefore 60 = .ok (.iload 6, 2) := by decide +kernel
theorem dX5_countBefore_62 : decode cX5_countBefore 62 = .ok (.istore 4, 2) := by decide +kernel
theorem dX5_countBefore_64 : decode cX5_countBefore 64 = .ok (.iinc 5 1, 3) := by decide +kernel
theorem dX5_countBefore_67 : decode cX5_countBefore 67 = .ok (.goto (-56), 3) := by decide +kernel
theorem dX5_countBefore_70 : decode cX5_countBefore 70 = .ok (.iload_n 3, 1) := by decide +kernel
theorem dX5_countBefore_71 : decode cX5_countBefore 71 = .ok (.ireturn, 1) := by decide +kernel
theorem dX5_collect_0 : decode cX5_collect 0 = .ok (.iconst 0, 1) := by decide +kernel
theorem dX5_collect_1 : decode cX5_collect 1 = .ok (.istore_n 2, 1) := by decide +kernel
theorem dX5_collect_2 : decode cX5_collect 2 = .ok (.iload_n 2, 1) := by decide +kernel
theorem dX5_collect_3 : decode cX5_collect 3 = .ok (.aload_n 0, 1) := by decide +kernel
theorem dX5_collect_4 : decode cX5_collect 4 = .ok (.getfield 31, 3) := by decide +kernel
theorem dX5_collect_7 : decode cX5_collect 7 = .ok (.if_icmp .ge 19, 3) := by decide +kernel
theorem dX5_collect_10 : decode cX5_collect 10 = .ok (.aload_n 1, 1) := by decide +kernel
theorem dX5_collect_11 : decode cX5_collect 11 = .ok (.aload_n 0, 1) := by decide +kernel
theorem dX5_collect_12 : decode cX5_collect 12 = .ok (.getfield 9, 3) := by decide +kernel
theorem dX5_collect_15 : decode cX5_collect 15 = .ok (.iload_n 2, 1) := by decide +kernel
theorem dX5_collect_16 : decode cX5_collect 16 = .ok (.iaload, 1) := by decide +kernel
theorem dX5_collect_17 : decode cX5_collect 17 = .ok (.invokevirtual 106, 3) := by decide +kernel
theorem dX5_collect_20 : decode cX5_collect 20 = .ok (.iinc 2 1, 3) := by decide +kernel
theorem dX5_collect_23 : decode cX5_collect 23 = .ok (.goto (-21), 3) := by decide +kernel
theorem dX5_collect_26 : decode cX5_collect 26 = .ok (.return_, 1) := by decide +kernel
theorem dX6_init_0 : decode cX6_init 0 = .ok (.aload_n 0, 1) := by decide +kernel
theorem dX6_init_1 : decode cX6_init 1 = .ok (.invokespecial 3, 3) := by decide +kernel
theorem dX6_init_4 : decode cX6_init 4 = .ok (.aload_n 0, 1) := by decide +kernel
theorem dX6_init_5 : decode cX6_init 5 = .ok (.iconst 0, 1) := by decide +kernel
theorem dX6_init_6 : decode cX6_init 6 = .ok (.iload_n 1, 1) := by decide +kernel
theorem dX6_init_7 : decode cX6_init 7 = .ok (.invokestatic 9, 3) := by decide +kernel
theorem dX6_init_10 : decode cX6_init 10 = .ok (.newarray .byte, 2) := by decide +kernel
theorem dX6_init_12 : decode cX6_init 12 = .ok (.putfield 15, 3) := by decide +kernel
theorem dX6_init_15 : decode cX6_init 15 = .ok (.return_, 1) := by decide +kernel
theorem dX6_accepts_0 : decode cX6_accepts 0 = .ok (.iload_n 1, 1) := by decide +kernel
theorem dX6_accepts_1 : decode cX6_accepts 1 = .ok (.ifCond .lt 35, 3) := by decide +kernel
theorem dX6_accepts_4 : decode cX6_accepts 4 = .ok (.iload_n 1, 1) := by decide +kernel
theorem dX6_accepts_5 : decode cX6_accepts 5 = .ok (.bipush 8, 2) := by decide +kernel
theorem dX6_accepts_7 : decode cX6_accepts 7 = .ok (.if_icmp .gt 29, 3) := by decide +kernel
theorem dX6_accepts_10 : decode cX6_accepts 10 = .ok (.iload_n 2, 1) := by decide +kernel
theorem dX6_accepts_11 : decode cX6_accepts 11 = .ok (.ifCond .eq 7, 3) := by decide +kernel
theorem dX6_accepts_14 : decode cX6_accepts 14 = .ok (.iconst 0, 1) := by decide +kernel
theorem dX6_accepts_15 : decode cX6_accepts 15 = .ok (.goto 7, 3) := by decide +kernel
theorem dX6_accepts_18 : decode cX6_accepts 18 = .ok (.aload_n 0, 1) := by decide +kernel
theorem dX6_accepts_19 : decode cX6_accepts 19 = .ok (.getfield 21, 3) := by decide +kernel
theorem dX6_accepts_22 : decode cX6_accepts 22 = .ok (.iload_n 1, 1) := by decide +kernel
theorem dX6_accepts_23 : decode cX6_accepts 23 = .ok (.iadd, 1) := by decide +kernel
theorem dX6_accepts_24 : decode cX6_accepts 24 = .ok (.aload_n 0, 1) := by decide +kernel
theorem dX6_accepts_25 : decode cX6_accepts 25 = .ok (.getfield 15, 3) := by decide +kernel
theorem dX6_accepts_28 : decode cX6_accepts 28 = .ok (.arraylength, 1) := by decide +kernel
theorem dX6_accepts_29 : decode cX6_accepts 29 = .ok (.if_icmp .gt 7, 3) := by decide +kernel
theorem dX6_accepts_32 : decode cX6_accepts 32 = .ok (.iconst 1, 1) := by decide +kernel
theorem dX6_accepts_33 : decode cX6_accepts 33 = .ok (.goto 4, 3) := by decide +kernel
theorem dX6_accepts_36 : decode cX6_accepts 36 = .ok (.iconst 0, 1) := by decide +kernel
theorem dX6_accepts_37 : decode cX6_accepts 37 = .ok (.ireturn, 1) := by decide +kernel
theorem dX6_append_0 : decode cX6_append 0 = .ok (.iload 4, 2) := by decide +kernel
theorem dX6_append_2 : decode cX6_append 2 = .ok (.ifCond .eq 8, 3) := by decide +kernel
theorem dX6_append_5 : decode cX6_append 5 = .ok (.aload_n 0, 1) := by decide +kernel
theorem dX6_append_6 : decode cX6_append 6 = .ok (.iconst 0, 1) := by decide +kernel
theorem dX6_append_7 : decode cX6_append 7 = .ok (.putfield 21, 3) := by decide +kernel
theorem dX6_append_10 : decode cX6_append 10 = .ok (.iload_n 3, 1) := by decide +kernel
theorem dX6_append_11 : decode cX6_append 11 = .ok (.iconst 1, 1) := by decide +kernel
theorem dX6_append_12 : decode cX6_append 12 = .ok (.isub, 1) := by decide +kernel
theorem dX6_append_13 : decode cX6_append 13 = .ok (.istore 5, 2) := by decide +kernel
theorem dX6_append_15 : decode cX6_append 15 = .ok (.iload 5, 2) := by decide +kernel
theorem dX6_append_17 : decode cX6_append 17 = .ok (.ifCond .lt 56, 3) := by decide +kernel
theorem dX6_append_20 : decode cX6_append 20 = .ok (.aload_n 0, 1) := by decide +kernel
theorem dX6_append_21 : decode cX6_append 21 = .ok (.getfield 21, 3) := by decide +kernel
theorem dX6_append_24 : decode cX6_append 24 = .ok (.ifCond .lt 49, 3) := by decide +kernel
theorem dX6_append_27 : decode cX6_append 27 = .ok (.aload_n 0, 1) := by decide +kernel
theorem dX6_append_28 : decode cX6_append 28 = .ok (.getfield 21, 3) := by decide +kernel
theorem dX6_append_31 : decode cX6_append 31 = .ok (.aload_n 0, 1) := by decide +kernel
theorem dX6_append_32 : decode cX6_append 32 = .ok (.getfield 15, 3) := by decide +kernel
theorem dX6_append_35 : decode cX6_append 35 = .ok (.arraylength, 1) := by decide +kernel
theorem dX6_append_36 : decode cX6_append 36 = .ok (.if_icmp .ge 37, 3) := by decide +kernel
theorem dX6_append_39 : decode cX6_append 39 = .ok (.aload_n 0, 1) := by decide +kernel
theorem dX6_append_40 : decode cX6_append 40 = .ok (.getfield 15, 3) := by decide +kernel
theorem dX6_append_43 : decode cX6_append 43 = .ok (.aload_n 0, 1) := by decide +kernel
theorem dX6_append_44 : decode cX6_append 44 = .ok (.getfield 21, 3) := by decide +kernel
theorem dX6_append_47 : decode cX6_append 47 = .ok (.lload_n 1, 1) := by decide +kernel
theorem dX6_append_48 : decode cX6_append 48 = .ok (.bipush 8, 2) := by decide +kernel
theorem dX6_append_50 : decode cX6_append 50 = .ok (.iload 5, 2) := by decide +kernel
theorem dX6_append_52 : decode cX6_append 52 = .ok (.imul, 1) := by decide +kernel
theorem dX6_append_53 : decode cX6_append 53 = .ok (.lshr, 1) := by decide +kernel
theorem dX6_append_54 : decode cX6_append 54 = .ok (.l2i, 1) := by decide +kernel
theorem dX6_append_55 : decode cX6_append 55 = .ok (.i2b, 1) := by decide +kernel
theorem dX6_append_56 : decode cX6_append 56 = .ok (.bastore, 1) := by decide +kernel
theorem dX6_append_57 : decode cX6_append 57 = .ok (.aload_n 0, 1) := by decide +kernel
theorem dX6_append_58 : decode cX6_append 58 = .ok (.dup, 1) := by decide +kernel
theorem dX6_append_59 : decode cX6_append 59 = .ok (.getfield 21, 3) := by decide +kernel
theorem dX6_append_62 : decode cX6_append 62 = .ok (.iconst 1, 1) := by decide +kernel
theorem dX6_append_63 : decode cX6_append 63 = .ok (.iadd, 1) := by decide +kernel
theorem dX6_append_64 : decode cX6_append 64 = .ok (.putfield 21, 3) := by decide +kernel
theorem dX6_append_67 : decode cX6_append 67 = .ok (.iinc 5 (-1), 3) := by decide +kernel
theorem dX6_append_70 : decode cX6_append 70 = .ok (.goto (-55), 3) := by decide +kernel
theorem dX6_append_73 : decode cX6_append 73 = .ok (.aload_n 0, 1) := by decide +kernel
theorem dX6_append_74 : decode cX6_append 74 = .ok (.getfield 21, 3) := by decide +kernel
theorem dX6_append_77 : decode cX6_append 77 = .ok (.ireturn, 1) := by decide +kernel
theorem dX6_word_0 : decode cX6_word 0 = .ok (.lconst 0, 1) := by decide +kernel
theorem dX6_word_1 : decode cX6_word 1 = .ok (.lstore_n 2, 1) := by decide +kernel
theorem dX6_word_2 : decode cX6_word 2 = .ok (.iload_n 1, 1) := by decide +kernel
theorem dX6_word_3 : decode cX6_word 3 = .ok (.istore 4, 2) := by decide +kernel
theorem dX6_word_5 : decode cX6_word 5 = .ok (.iload 4, 2) := by decide +kernel
theorem dX6_word_7 : decode cX6_word 7 = .ok (.iload_n 1, 1) := by decide +kernel
theorem dX6_word_8 : decode cX6_word 8 = .ok (.bipush 8, 2) := by decide +kernel
theorem dX6_word_10 : decode cX6_word 10 = .ok (.iadd, 1) := by decide +kernel
theorem dX6_word_11 : decode cX6_word 11 = .ok (.if_icmp .ge 59, 3) := by decide +kernel
theorem dX6_word_14 : decode cX6_word 14 = .ok (.iload 4, 2) := by decide +kernel
theorem dX6_word_16 : decode cX6_word 16 = .ok (.ifCond .lt 36, 3) := by decide +kernel
theorem dX6_word_19 : decode cX6_word 19 = .ok (.iload 4, 2) := by decide +kernel
theorem dX6_word_21 : decode cX6_word 21 = .ok (.aload_n 0, 1) := by decide +kernel
theorem dX6_word_22 : decode cX6_word 22 = .ok (.getfield 21, 3) := by decide +kernel
theorem dX6_word_25 : decode cX6_word 25 = .ok (.if_icmp .ge 27, 3) := by decide +kernel
theorem dX6_word_28 : decode cX6_word 28 = .ok (.iload 4, 2) := by decide +kernel
theorem dX6_word_30 : decode cX6_word 30 = .ok (.aload_n 0, 1) := by decide +kernel
theorem dX6_word_31 : decode cX6_word 31 = .ok (.getfield 15, 3) := by decide +kernel
theorem dX6_word_34 : decode cX6_word 34 = .ok (.arraylength, 1) := by decide +kernel
theorem dX6_word_35 : decode cX6_word 35 = .ok (.if_icmp .ge 17, 3) := by decide +kernel
theorem dX6_word_38 : decode cX6_word 38 = .ok (.aload_n 0, 1) := by decide +kernel
theorem dX6_word_39 : decode cX6_word 39 = .ok (.getfield 15, 3) := by decide +kernel
theorem dX6_word_42 : decode cX6_word 42 = .ok (.iload 4, 2) := by decide +kernel
theorem dX6_word_44 : decode cX6_word 44 = .ok (.baload, 1) := by decide +kernel
theorem dX6_word_45 : decode cX6_word 45 = .ok (.sipush 255, 3) := by decide +kernel
theorem dX6_word_48 : decode cX6_word 48 = .ok (.iand, 1) := by decide +kernel
theorem dX6_word_49 : decode cX6_word 49 = .ok (.goto 4, 3) := by decide +kernel
theorem dX6_word_52 : decode cX6_word 52 = .ok (.iconst 0, 1) := by decide +kernel
theorem dX6_word_53 : decode cX6_word 53 = .ok (.istore 5, 2) := by decide +kernel
theorem dX6_word_55 : decode cX6_word 55 = .ok (.lload_n 2, 1) := by decide +kernel
theorem dX6_word_56 : decode cX6_word 56 = .ok (.bipush 8, 2) := by decide +kernel
theorem dX6_word_58 : decode cX6_word 58 = .ok (.lshl, 1) := by decide +kernel
theorem dX6_word_59 : decode cX6_word 59 = .ok (.iload 5, 2) := by decide +kernel
theorem dX6_word_61 : decode cX6_word 61 = .ok (.i2l, 1) := by decide +kernel
theorem dX6_word_62 : decode cX6_word 62 = .ok (.lor, 1) := by decide +kernel
theorem dX6_word_63 : decode cX6_word 63 = .ok (.lstore_n 2, 1) := by decide +kernel
theorem dX6_word_64 : decode cX6_word 64 = .ok (.iinc 4 1, 3) := by decide +kernel
theorem dX6_word_67 : decode cX6_word 67 = .ok (.goto (-62), 3) := by decide +kernel
theorem dX6_word_70 : decode cX6_word 70 = .ok (.lload_n 2, 1) := by decide +kernel
theorem dX6_word_71 : decode cX6_word 71 = .ok (.lreturn, 1) := by decide +kernel
theorem dX6_copy_0 : decode cX6_copy 0 = .ok (.iload_n 2, 1) := by decide +kernel
theorem dX6_copy_1 : decode cX6_copy 1 = .ok (.ifCond .lt 40, 3) := by decide +kernel
theorem dX6_copy_4 : decode cX6_copy 4 = .ok (.iload_n 3, 1) := by decide +kernel
theorem dX6_copy_5 : decode cX6_copy 5 = .ok (.ifCond .lt 36, 3) := by decide +kernel
theorem dX6_copy_8 : decode cX6_copy 8 = .ok (.iload_n 3, 1) := by decide +kernel
theorem dX6_copy_9 : decode cX6_copy 9 = .ok (.aload_n 0, 1) := by decide +kernel
theorem dX6_copy_10 : decode cX6_copy 10 = .ok (.getfield 15, 3) := by decide +kernel
theorem dX6_copy_13 : decode cX6_copy 13 = .ok (.arraylength, 1) := by decide +kernel
theorem dX6_copy_14 : decode cX6_copy 14 = .ok (.if_icmp .gt 27, 3) := by decide +kernel
theorem dX6_copy_17 : decode cX6_copy 17 = .ok (.iload_n 2, 1) := by decide +kernel
theorem dX6_copy_18 : decode cX6_copy 18 = .ok (.aload_n 1, 1) := by decide +kernel
theorem dX6_copy_19 : decode cX6_copy 19 = .ok (.arraylength, 1) := by decide +kernel
theorem dX6_copy_20 : decode cX6_copy 20 = .ok (.iload_n 3, 1) := by decide +kernel
theorem dX6_copy_21 : decode cX6_copy 21 = .ok (.isub, 1) := by decide +kernel
theorem dX6_copy_22 : decode cX6_copy 22 = .ok (.if_icmp .gt 19, 3) := by decide +kernel
theorem dX6_copy_25 : decode cX6_copy 25 = .ok (.aload_n 1, 1) := by decide +kernel
theorem dX6_copy_26 : decode cX6_copy 26 = .ok (.iload_n 2, 1) := by decide +kernel
theorem dX6_copy_27 : decode cX6_copy 27 = .ok (.aload_n 0, 1) := by decide +kernel
theorem dX6_copy_28 : decode cX6_copy 28 = .ok (.getfield 15, 3) := by decide +kernel
theorem dX6_copy_31 : decode cX6_copy 31 = .ok (.iconst 0, 1) := by decide +kernel
theorem dX6_copy_32 : decode cX6_copy 32 = .ok (.iload_n 3, 1) := by decide +kernel
theorem dX6_copy_33 : decode cX6_copy 33 = .ok (.invokestatic 25, 3) := by decide +kernel
theorem dX6_copy_36 : decode cX6_copy 36 = .ok (.aload_n 0, 1) := by decide +kernel
theorem dX6_copy_37 : decode cX6_copy 37 = .ok (.iload_n 3, 1) := by decide +kernel
theorem dX6_copy_38 : decode cX6_copy 38 = .ok (.putfield 21, 3) := by decide +kernel
theorem dX6_copy_41 : decode cX6_copy 41 = .ok (.return_, 1) := by decide +kernel
theorem dX7_init_0 : decode cX7_init 0 = .ok (.aload_n 0, 1) := by decide +kernel
theorem dX7_init_1 : decode cX7_init 1 = .ok (.invokespecial 3, 3) := by decide +kernel
theorem dX7_init_4 : decode cX7_init 4 = .ok (.aload_n 0, 1) := by decide +kernel
theorem dX7_init_5 : decode cX7_init 5 = .ok (.sipush 2048, 3) := by decide +kernel
theorem dX7_init_8 : decode cX7_init 8 = .ok (.newarray .int, 2) := by decide +kernel
theorem dX7_init_10 : decode cX7_init 10 = .ok (.putfield 9, 3) := by decide +kernel
theorem dX7_init_13 : decode cX7_init 13 = .ok (.aload_n 0, 1) := by decide +kernel
theorem dX7_init_14 : decode cX7_init 14 = .ok (.sipush 2048, 3) := by decide +kernel
theorem dX7_init_17 : decode cX7_init 17 = .ok (.newarray .int, 2) := by decide +kernel
theorem dX7_init_19 : decode cX7_init 19 = .ok (.putfield 15, 3) := by decide +kernel
theorem dX7_init_22 : decode cX7_init 22 = .ok (.aload_n 0, 1) := by decide +kernel
theorem dX7_init_23 : decode cX7_init 23 = .ok (.aload_n 1, 1) := by decide +kernel
theorem dX7_init_24 : decode cX7_init 24 = .ok (.putfield 18, 3) := by decide +kernel
theorem dX7_init_27 : decode cX7_init 27 = .ok (.return_, 1) := by decide +kernel
theorem dX7_clear_0 : decode cX7_clear 0 = .ok (.aload_n 0, 1) := by decide +kernel
theorem dX7_clear_1 : decode cX7_clear 1 = .ok (.iconst 0, 1) := by decide +kernel
theorem dX7_clear_2 : decode cX7_clear 2 = .ok (.putfield 22, 3) := by decide +kernel
theorem dX7_clear_5 : decode cX7_clear 5 = .ok (.aload_n 0, 1) := by decide +kernel
theorem dX7_clear_6 : decode cX7_clear 6 = .ok (.iconst 1, 1) := by decide +kernel
theorem dX7_clear_7 : decode cX7_clear 7 = .ok (.putfield 26, 3) := by decide +kernel
theorem dX7_clear_10 : decode cX7_clear 10 = .ok (.return_, 1) := by decide +kernel
theorem dX7_add_0 : decode cX7_add 0 = .ok (.aload_n 0, 1) := by decide +kernel
theorem dX7_add_1 : decode cX7_add 1 = .ok (.getfield 22, 3) := by decide +kernel
theorem dX7_add_4 : decode cX7_add 4 = .ok (.sipush 2048, 3) := by decide +kernel
theorem dX7_add_7 : decode cX7_add 7 = .ok (.if_icmp .lt 9, 3) := by decide +kernel
theorem dX7_add_10 : decode cX7_add 10 = .ok (.aload_n 0, 1) := by decide +kernel
theorem dX7_add_11 : decode cX7_add 11 = .ok (.iconst 0, 1) := by decide +kernel
theorem dX7_add_12 : decode cX7_add 12 = .ok (.putfield 26, 3) := by decide +kernel
theorem dX7_add_15 : decode cX7_add 15 = .ok (.return_, 1) := by decide +kernel
theorem dX7_add_16 : decode cX7_add 16 = .ok (.aload_n 0, 1) := by decide +kernel
theorem dX7_add_17 : decode cX7_add 17 = .ok (.getfield 9, 3) := by decide +kernel
theorem dX7_add_20 : decode cX7_add 20 = .ok (.aload_n 0, 1) := by decide +kernel
theorem dX7_add_21 : decode cX7_add 21 = .ok (.getfield 22, 3) := by decide +kernel
theorem dX7_add_24 : decode cX7_add 24 = .ok (.iload_n 1, 1) := by decide +kernel
theorem dX7_add_25 : decode cX7_add 25 = .ok (.iastore, 1) := by decide +kernel
theorem dX7_add_26 : decode cX7_add 26 = .ok (.aload_n 0, 1) := by decide +kernel
theorem dX7_add_27 : decode cX7_add 27 = .ok (.dup, 1) := by decide +kernel
theorem dX7_add_28 : decode cX7_add 28 = .ok (.getfield 22, 3) := by decide +kernel
theorem dX7_add_31 : decode cX7_add 31 = .ok (.iconst 1, 1) := by decide +kernel
theorem dX7_add_32 : decode cX7_add 32 = .ok (.iadd, 1) := by decide +kernel
theorem dX7_add_33 : decode cX7_add 33 = .ok (.putfield 22, 3) := by decide +kernel
theorem dX7_add_36 : decode cX7_add 36 = .ok (.return_, 1) := by decide +kernel
theorem dX7_blend_0 : decode cX7_blend 0 = .ok (.iload_n 1, 1) := by decide +kernel
theorem dX7_blend_1 : decode cX7_blend 1 = .ok (.ifCond .le 11, 3) := by decide +kernel
theorem dX7_blend_4 : decode cX7_blend 4 = .ok (.iload_n 1, 1) := by decide +kernel
theorem dX7_blend_5 : decode cX7_blend 5 = .ok (.aload_n 0, 1) := by decide +kernel
theorem dX7_blend_6 : decode cX7_blend 6 = .ok (.getfield 22, 3) := by decide +kernel
theorem dX7_blend_9 : decode cX7_blend 9 = .ok (.if_icmp .lt 4, 3) := by decide +kernel
theorem dX7_blend_12 : decode cX7_blend 12 = .ok (.return_, 1) := by decide +kernel
theorem dX7_blend_13 : decode cX7_blend 13 = .ok (.aload_n 0, 1) := by decide +kernel
theorem dX7_blend_14 : decode cX7_blend 14 = .ok (.getfield 9, 3) := by decide +kernel
theorem dX7_blend_17 : decode cX7_blend 17 = .ok (.iconst 0, 1) := by decide +kernel
theorem dX7_blend_18 : decode cX7_blend 18 = .ok (.aload_n 0, 1) := by decide +kernel
theorem dX7_blend_19 : decode cX7_blend 19 = .ok (.getfield 15, 3) := by decide +kernel
theorem dX7_blend_22 : decode cX7_blend 22 = .ok (.iconst 0, 1) := by decide +kernel
theorem dX7_blend_23 : decode cX7_blend 23 = .ok (.iload_n 1, 1) := by decide +kernel
theorem dX7_blend_24 : decode cX7_blend 24 = .ok (.invokestatic 30, 3) := by decide +kernel
theorem dX7_blend_27 : decode cX7_blend 27 = .ok (.iconst 0, 1) := by decide +kernel
theorem dX7_blend_28 : decode cX7_blend 28 = .ok (.istore_n 2, 1) := by decide +kernel
theorem dX7_blend_29 : decode cX7_blend 29 = .ok (.iload_n 1, 1) := by decide +kernel
theorem dX7_blend_30 : decode cX7_blend 30 = .ok (.istore_n 3, 1) := by decide +kernel
theorem dX7_blend_31 : decode cX7_blend 31 = .ok (.iconst 0, 1) := by decide +kernel
theorem dX7_blend_32 : decode cX7_blend 32 = .ok (.istore 4, 2) := by decide +kernel
theorem dX7_blend_34 : decode cX7_blend 34 = .ok (.iload 4, 2) := by decide +kernel
theorem dX7_blend_36 : decode cX7_blend 36 = .ok (.aload_n 0, 1) := by decide +kernel
theorem dX7_blend_37 : decode cX7_blend 37 = .ok (.getfield 22, 3) := by decide +kernel
theorem dX7_blend_40 : decode cX7_blend 40 = .ok (.if_icmp .ge 79, 3) := by decide +kernel
theorem dX7_blend_43 : decode cX7_blend 43 = .ok (.iload_n 2, 1) := by decide +kernel
theorem dX7_blend_44 : decode cX7_blend 44 = .ok (.iload_n 1, 1) := by decide +kernel
theorem dX7_blend_45 : decode cX7_blend 45 = .ok (.if_icmp .ge 74, 3) := by decide +kernel
theorem dX7_blend_48 : decode cX7_blend 48 = .ok (.iload_n 3, 1) := by decide +kernel
theorem dX7_blend_49 : decode cX7_blend 49 = .ok (.aload_n 0, 1) := by decide +kernel
theorem dX7_blend_50 : decode cX7_blend 50 = .ok (.getfield 22, 3) := by decide +kernel
theorem dX7_blend_53 : decode cX7_blend 53 = .ok (.if_icmp .ge 25, 3) := by decide +kernel
theorem dX7_blend_56 : decode cX7_blend 56 = .ok (.aload_n 0, 1) := by decide +kernel
theorem dX7_blend_57 : decode cX7_blend 57 = .ok (.getfield 18, 3) := by decide +kernel
theorem dX7_blend_60 : decode cX7_blend 60 = .ok (.aload_n 0, 1) := by decide +kernel
theorem dX7_blend_61 : decode cX7_blend 61 = .ok (.getfield 15, 3) := by decide +kernel
theorem dX7_blend_64 : decode cX7_blend 64 = .ok (.iload_n 2, 1) := by decide +kernel
